theorem mem_r {big : List Cond} (ws : List Cond) (ps : List Nat) (hp : ws = ps.filterMap (fun i => big[i]?)) : ∀ w ∈ ws, w ∈ big := by
  intro w hw
  rw [hp] at hw
  obtain ⟨i, -, hi⟩ := List.mem_filterMap.mp hw
  exact List.mem_of_getElem? hi
set_option maxRecDepth 20000 in
theorem in_wsL_law_r1 : ∀ w ∈ wsL_law_r1, w ∈ lw_tbl := mem_r _ [56, 57, 47, 600, 601, 53, 961, 58, 59, 60, 61, 62, 63, 64, 65, 48, 161, 79, 80, 49, 162, 104, 105, 50] (by decide +kernel)
set_option maxRecDepth 20000 in
theorem in_wsL_law_r2 : ∀ w ∈ wsL_law_r2, w ∈ lw_tbl := mem_r _ [163, 130, 131, 51, 164, 147, 148, 52, 165, 67, 68, 69, 78, 70, 82, 83, 84, 103, 85, 86, 87, 88, 107, 108] (by decide +kernel)
set_option maxRecDepth 20000 in
theorem in_wsL_law_r3 : ∀ w ∈ wsL_law_r3, w ∈ lw_tbl := mem_r _ [109, 110, 111, 112, 113, 114, 133, 134, 135, 136, 137, 150, 151, 152, 153, 602, 603, 604, 605, 607, 609, 610, 612, 613] (by decide +kernel)
set_option maxRecDepth 20000 in
theorem in_wsL_law_r4 : ∀ w ∈ wsL_law_r4, w ∈ lw_tbl := mem_r _ [615, 617, 622, 177, 178, 179, 180, 181, 182, 183, 184, 185, 186, 71, 661, 662, 663, 664, 665, 666, 670, 606, 671, 667] (by decide +kernel)
set_option maxRecDepth 20000 in
theorem in_wsL_law_r5 : ∀ w ∈ wsL_law_r5, w ∈ lw_tbl := mem_r _ [668, 669, 187, 188, 189, 190, 191, 192, 193, 194, 672, 673, 674, 675, 195, 196, 197, 198, 199, 200, 201, 202, 203, 205] (by decide +kernel)
set_option maxRecDepth 20000 in
theorem in_wsL_law_r6 : ∀ w ∈ wsL_law_r6, w ∈ lw_tbl := mem_r _ [0, 206, 207, 208, 54, 209, 210, 211, 212, 213, 214, 215, 216, 217, 218, 676, 677, 678, 679, 618, 680, 682, 13, 683] (by decide +kernel)
set_option maxRecDepth 20000 in
theorem in_wsL_law_r7 : ∀ w ∈ wsL_law_r7, w ∈ lw_tbl := mem_r _ [616, 684, 685, 686, 687, 688, 689, 619, 690, 219, 220, 221, 222, 228, 251, 223, 224, 225, 226, 227, 229, 230, 231, 232] (by decide +kernel)
set_option maxRecDepth 20000 in
theorem in_wsL_law_r8 : ∀ w ∈ wsL_law_r8, w ∈ lw_tbl := mem_r _ [233, 234, 235, 236, 237, 238, 239, 240, 241, 242, 243, 244, 245, 246, 247, 248, 249, 250, 89, 252, 253, 254, 255, 691] (by decide +kernel)
set_option maxRecDepth 20000 in
theorem in_wsL_law_r9 : ∀ w ∈ wsL_law_r9, w ∈ lw_tbl := mem_r _ [692, 693, 694, 695, 608, 706, 696, 698, 14, 699, 700, 701, 702, 704, 15, 705, 256, 257, 258, 259, 264, 269, 260, 261] (by decide +kernel)
set_option maxRecDepth 20000 in
theorem in_wsL_law_r10 : ∀ w ∈ wsL_law_r10, w ∈ lw_tbl := mem_r _ [262, 263, 265, 266, 267, 268, 138, 270, 271, 272, 273, 274, 275, 276, 277, 278, 707, 708, 709, 710, 715, 611, 716, 711] (by decide +kernel)
set_option maxRecDepth 20000 in
theorem in_wsL_law_r11 : ∀ w ∈ wsL_law_r11, w ∈ lw_tbl := mem_r _ [713, 16, 714, 279, 280, 281, 282, 717, 718, 719, 720, 283, 284, 285, 286, 287, 288, 289, 290, 291, 292, 293, 721, 722] (by decide +kernel)
set_option maxRecDepth 20000 in
theorem in_wsL_law_r12 : ∀ w ∈ wsL_law_r12, w ∈ lw_tbl := mem_r _ [723, 724, 725, 726, 727, 294, 295, 296, 297, 298, 299, 300, 301, 728, 729, 730, 731, 732, 734, 17, 735, 302, 303, 304] (by decide +kernel)
set_option maxRecDepth 20000 in
theorem in_wsL_law_r13 : ∀ w ∈ wsL_law_r13, w ∈ lw_tbl := mem_r _ [305, 306, 307, 308, 309, 310, 311, 312, 313, 314, 315, 316, 317, 318, 319, 321, 322, 323, 324, 54, 325, 736, 737, 738] (by decide +kernel)
set_option maxRecDepth 20000 in
theorem in_wsL_law_r14 : ∀ w ∈ wsL_law_r14, w ∈ lw_tbl := mem_r _ [739, 740, 742, 18, 743, 744, 745, 747, 19, 748, 749, 750, 752, 20, 753, 326, 327, 328, 329, 330, 331, 332, 333, 334] (by decide +kernel)
set_option maxRecDepth 20000 in
theorem in_wsL_law_r15 : ∀ w ∈ wsL_law_r15, w ∈ lw_tbl := mem_r _ [335, 336, 754, 755, 756, 757, 758, 760, 21, 761, 762, 763, 765, 22, 766, 337, 338, 339, 340, 346, 341, 342, 343, 344] (by decide +kernel)
set_option maxRecDepth 20000 in
theorem in_wsL_law_r16 : ∀ w ∈ wsL_law_r16, w ∈ lw_tbl := mem_r _ [345, 767, 768, 769, 770, 771, 347, 348, 349, 350, 359, 351, 352, 353, 354, 355, 356, 357, 358, 772, 773, 774, 775, 776] (by decide +kernel)
set_option maxRecDepth 20000 in
theorem in_wsL_law_r17 : ∀ w ∈ wsL_law_r17, w ∈ lw_tbl := mem_r _ [777, 778, 780, 23, 781, 782, 783, 784, 360, 361, 362, 363, 364, 365, 366, 367, 368, 369, 785, 786, 787, 788, 789, 790] (by decide +kernel)
set_option maxRecDepth 20000 in
theorem in_wsL_law_r18 : ∀ w ∈ wsL_law_r18, w ∈ lw_tbl := mem_r _ [792, 24, 793, 370, 371, 372, 373, 374, 375, 376, 377, 115, 378, 379, 381, 1, 382, 384, 385, 386, 383, 387, 388, 389] (by decide +kernel)
set_option maxRecDepth 20000 in
theorem in_wsL_law_r19 : ∀ w ∈ wsL_law_r19, w ∈ lw_tbl := mem_r _ [390, 391, 392, 393, 395, 2, 396, 397, 399, 3, 400, 401, 402, 55, 403, 404, 405, 406, 407, 794, 795, 796, 797, 798] (by decide +kernel)
set_option maxRecDepth 20000 in
theorem in_wsL_law_r20 : ∀ w ∈ wsL_law_r20, w ∈ lw_tbl := mem_r _ [800, 25, 801, 620, 828, 621, 802, 804, 26, 805, 806, 808, 27, 809, 810, 812, 28, 813, 814, 816, 29, 817, 818, 819] (by decide +kernel)
set_option maxRecDepth 20000 in
theorem in_wsL_law_r21 : ∀ w ∈ wsL_law_r21, w ∈ lw_tbl := mem_r _ [820, 821, 822, 823, 824, 826, 30, 827, 408, 409, 410, 411, 829, 830, 831, 832, 412, 413, 414, 415, 416, 417, 418, 419] (by decide +kernel)
set_option maxRecDepth 20000 in
theorem in_wsL_law_r22 : ∀ w ∈ wsL_law_r22, w ∈ lw_tbl := mem_r _ [420, 833, 834, 835, 836, 837, 839, 31, 840, 841, 843, 32, 844, 845, 847, 33, 848, 421, 422, 423, 424, 425, 427, 4] (by decide +kernel)
set_option maxRecDepth 20000 in
theorem in_wsL_law_r23 : ∀ w ∈ wsL_law_r23, w ∈ lw_tbl := mem_r _ [428, 429, 435, 436, 437, 430, 431, 432, 433, 434, 849, 850, 851, 852, 853, 855, 34, 856, 857, 858, 860, 35, 861, 438] (by decide +kernel)
set_option maxRecDepth 20000 in
theorem in_wsL_law_r24 : ∀ w ∈ wsL_law_r24, w ∈ lw_tbl := mem_r _ [439, 440, 441, 442, 443, 444, 445, 446, 447, 862, 863, 864, 865, 866, 867, 448, 449, 450, 451, 456, 452, 453, 454, 455] (by decide +kernel)
set_option maxRecDepth 20000 in
theorem in_wsL_law_r25 : ∀ w ∈ wsL_law_r25, w ∈ lw_tbl := mem_r _ [457, 458, 459, 460, 461, 868, 869, 870, 871, 876, 872, 874, 36, 875, 462, 463, 464, 465, 877, 878, 879, 880, 466, 467] (by decide +kernel)
set_option maxRecDepth 20000 in
theorem in_wsL_law_r26 : ∀ w ∈ wsL_law_r26, w ∈ lw_tbl := mem_r _ [468, 469, 470, 471, 472, 473, 474, 476, 5, 477, 479, 480, 478, 481, 881, 882, 883, 884, 885, 887, 37, 888, 889, 891] (by decide +kernel)
set_option maxRecDepth 20000 in
theorem in_wsL_law_r27 : ∀ w ∈ wsL_law_r27, w ∈ lw_tbl := mem_r _ [38, 892, 483, 484, 485, 486, 893, 894, 895, 896, 897, 899, 39, 900, 487, 488, 489, 490, 491, 492, 493, 494, 495, 496] (by decide +kernel)
set_option maxRecDepth 20000 in
theorem in_wsL_law_r28 : ∀ w ∈ wsL_law_r28, w ∈ lw_tbl := mem_r _ [498, 6, 499, 500, 501, 502, 503, 504, 505, 506, 507, 901, 902, 903, 904, 905, 906, 907, 908, 909, 910, 912, 40, 913] (by decide +kernel)
set_option maxRecDepth 20000 in
theorem in_wsL_law_r29 : ∀ w ∈ wsL_law_r29, w ∈ lw_tbl := mem_r _ [914, 916, 41, 917, 508, 509, 510, 511, 512, 513, 514, 515, 516, 154, 517, 518, 519, 520, 918, 919, 920, 921, 614, 521] (by decide +kernel)
set_option maxRecDepth 20000 in
theorem in_wsL_law_r30 : ∀ w ∈ wsL_law_r30, w ∈ lw_tbl := mem_r _ [522, 523, 524, 922, 923, 924, 925, 525, 526, 527, 528, 529, 530, 531, 532, 533, 926, 927, 928, 929, 534, 535, 536, 537] (by decide +kernel)
set_option maxRecDepth 20000 in
theorem in_wsL_law_r31 : ∀ w ∈ wsL_law_r31, w ∈ lw_tbl := mem_r _ [538, 539, 540, 541, 542, 544, 7, 545, 550, 546, 547, 548, 549, 930, 931, 932, 933, 934, 936, 42, 937, 946, 938, 940] (by decide +kernel)
set_option maxRecDepth 20000 in
theorem in_wsL_law_r32 : ∀ w ∈ wsL_law_r32, w ∈ lw_tbl := mem_r _ [43, 941, 942, 944, 44, 945, 551, 552, 553, 554, 555, 556, 557, 558, 947, 948, 949, 950, 559, 560, 561, 562, 563, 564] (by decide +kernel)
set_option maxRecDepth 20000 in
theorem in_wsL_law_r33 : ∀ w ∈ wsL_law_r33, w ∈ lw_tbl := mem_r _ [566, 8, 567, 568, 569, 570, 571, 572, 573, 574, 575, 576, 577, 579, 9, 580, 581, 582, 583, 584, 586, 10, 587, 588] (by decide +kernel)
set_option maxRecDepth 20000 in
theorem in_wsL_law_r34 : ∀ w ∈ wsL_law_r34, w ∈ lw_tbl := mem_r _ [589, 590, 592, 11, 593, 594, 595, 597, 12, 598, 599, 951, 952, 953, 954, 955, 623, 956, 958, 45, 959, 960] (by decide +kernel)
set_option maxRecDepth 20000 in
theorem in_wsX50 : ∀ w ∈ wsX50, w ∈ lw_tbl := mem_r _ [166, 168, 170, 172, 174] (by decide +kernel)
set_option maxRecDepth 20000 in
theorem in_wsX60 : ∀ w ∈ wsX60, w ∈ lw_tbl := mem_r _ [624, 626, 628, 630, 632, 634, 636, 638, 640, 642, 644, 646, 648, 650, 652, 654, 656, 658] (by decide +kernel)
set_option maxRecDepth 20000 in
theorem in_wsX20 : ∀ w ∈ wsX20, w ∈ lw_tbl := mem_r _ [73, 75] (by decide +kernel)
set_option maxRecDepth 20000 in
theorem in_wsX00 : ∀ w ∈ wsX00, w ∈ lw_tbl := mem_r _ [92, 94, 96, 98, 100] (by decide +kernel)
set_option maxRecDepth 20000 in
theorem in_wsX10 : ∀ w ∈ wsX10, w ∈ lw_tbl := mem_r _ [117, 119, 121, 123, 125, 127] (by decide +kernel)
set_option maxRecDepth 20000 in
theorem in_wsX30 : ∀ w ∈ wsX30, w ∈ lw_tbl := mem_r _ [140, 142, 144] (by decide +kernel)
set_option maxRecDepth 20000 in
theorem in_wsX40 : ∀ w ∈ wsX40, w ∈ lw_tbl := mem_r _ [156, 158] (by decide +kernel)
theorem mem_app {big a b : List Cond} (ha : ∀ w ∈ a, w ∈ big) (hb : ∀ w ∈ b, w ∈ big) : ∀ w ∈ a ++ b, w ∈ big := fun w h => (List.mem_append.mp h).elim (ha w) (hb w)
theorem wsL_law_in : ∀ w ∈ wsL_law, w ∈ lw_tbl := (mem_app (mem_app (mem_app (mem_app (mem_app (mem_app (mem_app (mem_app (mem_app in_wsL_law_r1 (mem_app in_wsL_law_r2 (mem_app in_wsL_law_r3 (mem_app in_wsL_law_r4 (mem_app in_wsL_law_r5 (mem_app in_wsL_law_r6 (mem_app in_wsL_law_r7 (mem_app in_wsL_law_r8 (mem_app in_wsL_law_r9 (mem_app in_wsL_law_r10 (mem_app in_wsL_law_r11 (mem_app in_wsL_law_r12 (mem_app in_wsL_law_r13 (mem_app in_wsL_law_r14 (mem_app in_wsL_law_r15 (mem_app in_wsL_law_r16 (mem_app in_wsL_law_r17 (mem_app in_wsL_law_r18 (mem_app in_wsL_law_r19 (mem_app in_wsL_law_r20 (mem_app in_wsL_law_r21 (mem_app in_wsL_law_r22 (mem_app in_wsL_law_r23 (mem_app in_wsL_law_r24 (mem_app in_wsL_law_r25 (mem_app in_wsL_law_r26 (mem_app in_wsL_law_r27 (mem_app in_wsL_law_r28 (mem_app in_wsL_law_r29 (mem_app in_wsL_law_r30 (mem_app in_wsL_law_r31 (mem_app in_wsL_law_r32 (mem_app in_wsL_law_r33 in_wsL_law_r34))))))))))))))))))))))))))))))))) in_wsX50) in_wsX60) in_wsX20) in_wsX00) in_wsX10) in_wsX30) in_wsX40) (fun _ h => absurd h List.not_mem_nil))
theorem inlX0 : ∀ w ∈ wsX00, w ∈ wsL_law := fun _ h => List.mem_append_left _ (List.mem_append_left _ (List.mem_append_left _ (List.mem_append_left _ (List.mem_append_right _ h))))
theorem inX0 : ∀ w ∈ wsX00, w ∈ lw_tbl := fun w h => wsL_law_in w (inlX0 w h)
theorem inlX1 : ∀ w ∈ wsX10, w ∈ wsL_law := fun _ h => List.mem_append_left _ (List.mem_append_left _ (List.mem_append_left _ (List.mem_append_right _ h)))
theorem inX1 : ∀ w ∈ wsX10, w ∈ lw_tbl := fun w h => wsL_law_in w (inlX1 w h)
theorem inlX2 : ∀ w ∈ wsX20, w ∈ wsL_law := fun _ h => List.mem_append_left _ (List.mem_append_left _ (List.mem_append_left _ (List.mem_append_left _ (List.mem_append_left _ (List.mem_append_right _ h)))))
theorem inX2 : ∀ w ∈ wsX20, w ∈ lw_tbl := fun w h => wsL_law_in w (inlX2 w h)
theorem inlX3 : ∀ w ∈ wsX30, w ∈ wsL_law := fun _ h => List.mem_append_left _ (List.mem_append_left _ (List.mem_append_right _ h))
theorem inX3 : ∀ w ∈ wsX30, w ∈ lw_tbl := fun w h => wsL_law_in w (inlX3 w h)
theorem inlX4 : ∀ w ∈ wsX40, w ∈ wsL_law := fun _ h => List.mem_append_left _ (List.mem_append_right _ h)
theorem inX4 : ∀ w ∈ wsX40, w ∈ lw_tbl := fun w h => wsL_law_in w (inlX4 w h)
theorem inlX5 : ∀ w ∈ wsX50, w ∈ wsL_law := fun _ h => List.mem_append_left _ (List.mem_append_left _ (List.mem_append_left _ (List.mem_append_left _ (List.mem_append_left _ (List.mem_append_left _ (List.mem_append_left _ (List.mem_append_right _ h)))))))
theorem inX5 : ∀ w ∈ wsX50, w ∈ lw_tbl := fun w h => wsL_law_in w (inlX5 w h)
theorem inlX6 : ∀ w ∈ wsX60, w ∈ wsL_law := fun _ h => List.mem_append_left _ (List.mem_append_left _ (List.mem_append_left _ (List.mem_append_left _ (List.mem_append_left _ (List.mem_append_left _ (List.mem_append_right _ h))))))
theorem inX6 : ∀ w ∈ wsX60, w ∈ lw_tbl := fun w h => wsL_law_in w (inlX6 w h)
theorem inJ13 : ∀ w ∈ wsJ130, w ∈ lw_tbl := by decide +kernel
theorem inJ9 : ∀ w ∈ wsJ90, w ∈ lw_tbl := by decide +kernel
theorem dX0_init_0 : decode cX0_init 0 = .ok (.aload_n 0, 1) := by decide +kernel
theorem dX0_init_1 : decode cX0_init 1 = .ok (.invokespecial 3, 3) := by decide +kernel
theorem dX0_init_4 : decode cX0_init 4 = .ok (.aload_n 0, 1) := by decide +kernel
theorem dX0_init_5 : decode cX0_init 5 = .ok (.bipush 20, 2) := by decide +kernel
theorem dX0_init_7 : decode cX0_init 7 = .ok (.newarray .long, 2) := by decide +kernel
theorem dX0_init_9 : decode cX0_init 9 = .ok (.putfield 9, 3) := by decide +kernel
theorem dX0_init_12 : decode cX0_init 12 = .ok (.aload_n 0, 1) := by decide +kernel
theorem dX0_init_13 : decode cX0_init 13 = .ok (.bipush 20, 2) := by decide +kernel
theorem dX0_init_15 : decode cX0_init 15 = .ok (.newarray .int, 2) := by decide +kernel
theorem dX0_init_17 : decode cX0_init 17 = .ok (.putfield 15, 3) := by decide +kernel
theorem dX0_init_20 : decode cX0_init 20 = .ok (.aload_n 0, 1) := by decide +kernel
theorem dX0_init_21 : decode cX0_init 21 = .ok (.bipush 20, 2) := by decide +kernel
theorem dX0_init_23 : decode cX0_init 23 = .ok (.newarray .int, 2) := by decide +kernel
theorem dX0_init_25 : decode cX0_init 25 = .ok (.putfield 19, 3) := by decide +kernel
theorem dX0_init_28 : decode cX0_init 28 = .ok (.aload_n 0, 1) := by decide +kernel
theorem dX0_init_29 : decode cX0_init 29 = .ok (.bipush 20, 2) := by decide +kernel
theorem dX0_init_31 : decode cX0_init 31 = .ok (.newarray .int, 2) := by decide +kernel
theorem dX0_init_33 : decode cX0_init 33 = .ok (.putfield 22, 3) := by decide +kernel
theorem dX0_init_36 : decode cX0_init 36 = .ok (.return_, 1) := by decide +kernel
theorem dX0_has_0 : decode cX0_has 0 = .ok (.iload_n 1, 1) := by decide +kernel
theorem dX0_has_1 : decode cX0_has 1 = .ok (.ifCond .lt 15, 3) := by decide +kernel
theorem dX0_has_4 : decode cX0_has 4 = .ok (.iload_n 1, 1) := by decide +kernel
theorem dX0_has_5 : decode cX0_has 5 = .ok (.aload_n 0, 1) := by decide +kernel
theorem dX0_has_6 : decode cX0_has 6 = .ok (.getfield 25, 3) := by decide +kernel
theorem dX0_has_9 : decode cX0_has 9 = .ok (.if_icmp .ge 7, 3) := by decide +kernel
theorem dX0_has_12 : decode cX0_has 12 = .ok (.iconst 1, 1) := by decide +kernel
theorem dX0_has_13 : decode cX0_has 13 = .ok (.goto 4, 3) := by decide +kernel
theorem dX0_has_16 : decode cX0_has 16 = .ok (.iconst 0, 1) := by decide +kernel
theorem dX0_has_17 : decode cX0_has 17 = .ok (.ireturn, 1) := by decide +kernel
theorem dX0_hasName_0 : decode cX0_hasName 0 = .ok (.iconst 0, 1) := by decide +kernel
theorem dX0_hasName_1 : decode cX0_hasName 1 = .ok (.istore_n 3, 1) := by decide +kernel
theorem dX0_hasName_2 : decode cX0_hasName 2 = .ok (.iload_n 3, 1) := by decide +kernel
theorem dX0_hasName_3 : decode cX0_hasName 3 = .ok (.aload_n 0, 1) := by decide +kernel
theorem dX0_hasName_4 : decode cX0_hasName 4 = .ok (.getfield 25, 3) := by decide +kernel
theorem dX0_hasName_7 : decode cX0_hasName 7 = .ok (.if_icmp .ge 22, 3) := by decide +kernel
theorem dX0_hasName_10 : decode cX0_hasName 10 = .ok (.aload_n 0, 1) := by decide +kernel
theorem dX0_hasName_11 : decode cX0_hasName 11 = .ok (.getfield 9, 3) := by decide +kernel
theorem dX0_hasName_14 : decode cX0_hasName 14 = .ok (.iload_n 3, 1) := by decide +kernel
theorem dX0_hasName_15 : decode cX0_hasName 15 = .ok (.laload, 1) := by decide +kernel
theorem dX0_hasName_16 : decode cX0_hasName 16 = .ok (.lload_n 1, 1) := by decide +kernel
theorem dX0_hasName_17 : decode cX0_hasName 17 = .ok (.lcmp, 1) := by decide +kernel
theorem dX0_hasName_18 : decode cX0_hasName 18 = .ok (.ifCond .ne 5, 3) := by decide +kernel
theorem dX0_hasName_21 : decode cX0_hasName 21 = .ok (.iconst 1, 1) := by decide +kernel
theorem dX0_hasName_22 : decode cX0_hasName 22 = .ok (.ireturn, 1) := by decide +kernel
theorem dX0_hasName_23 : decode cX0_hasName 23 = .ok (.iinc 3 1, 3) := by decide +kernel
theorem dX0_hasName_26 : decode cX0_hasName 26 = .ok (.goto (-24), 3) := by decide +kernel
theorem dX0_hasName_29 : decode cX0_hasName 29 = .ok (.iconst 0, 1) := by decide +kernel
theorem dX0_hasName_30 : decode cX0_hasName 30 = .ok (.ireturn, 1) := by decide +kernel
theorem dX0_add_0 : decode cX0_add 0 = .ok (.aload_n 0, 1) := by decide +kernel
theorem dX0_add_1 : decode cX0_add 1 = .ok (.getfield 25, 3) := by decide +kernel
theorem dX0_add_4 : decode cX0_add 4 = .ok (.bipush 20, 2) := by decide +kernel
theorem dX0_add_6 : decode cX0_add 6 = .ok (.if_icmp .ge 55, 3) := by decide +kernel
theorem dX0_add_9 : decode cX0_add 9 = .ok (.aload_n 0, 1) := by decide +kernel
theorem dX0_add_10 : decode cX0_add 10 = .ok (.getfield 9, 3) := by decide +kernel
theorem dX0_add_13 : decode cX0_add 13 = .ok (.aload_n 0, 1) := by decide +kernel
theorem dX0_add_14 : decode cX0_add 14 = .ok (.getfield 25, 3) := by decide +kernel
theorem dX0_add_17 : decode cX0_add 17 = .ok (.lload_n 1, 1) := by decide +kernel
theorem dX0_add_18 : decode cX0_add 18 = .ok (.lastore, 1) := by decide +kernel
theorem dX0_add_19 : decode cX0_add 19 = .ok (.aload_n 0, 1) := by decide +kernel
theorem dX0_add_20 : decode cX0_add 20 = .ok (.getfield 15, 3) := by decide +kernel
theorem dX0_add_23 : decode cX0_add 23 = .ok (.aload_n 0, 1) := by decide +kernel
theorem dX0_add_24 : decode cX0_add 24 = .ok (.getfield 25, 3) := by decide +kernel
theorem dX0_add_27 : decode cX0_add 27 = .ok (.iload_n 3, 1) := by decide +kernel
theorem dX0_add_28 : decode cX0_add 28 = .ok (.iastore, 1) := by decide +kernel
theorem dX0_add_29 : decode cX0_add 29 = .ok (.aload_n 0, 1) := by decide +kernel
theorem dX0_add_30 : decode cX0_add 30 = .ok (.getfield 19, 3) := by decide +kernel
theorem dX0_add_33 : decode cX0_add 33 = .ok (.aload_n 0, 1) := by decide +kernel
theorem dX0_add_34 : decode cX0_add 34 = .ok (.getfield 25, 3) := by decide +kernel
theorem dX0_add_37 : decode cX0_add 37 = .ok (.iload 4, 2) := by decide +kernel
theorem dX0_add_39 : decode cX0_add 39 = .ok (.iastore, 1) := by decide +kernel
theorem dX0_add_40 : decode cX0_add 40 = .ok (.aload_n 0, 1) := by decide +kernel
theorem dX0_add_41 : decode cX0_add 41 = .ok (.getfield 22, 3) := by decide +kernel
theorem dX0_add_44 : decode cX0_add 44 = .ok (.aload_n 0, 1) := by decide +kernel
theorem dX0_add_45 : decode cX0_add 45 = .ok (.getfield 25, 3) := by decide +kernel
theorem dX0_add_48 : decode cX0_add 48 = .ok (.iload 5, 2) := by decide +kernel
theorem dX0_add_50 : decode cX0_add 50 = .ok (.iastore, 1) := by decide +kernel
theorem dX0_add_51 : decode cX0_add 51 = .ok (.aload_n 0, 1) := by decide +kernel
theorem dX0_add_52 : decode cX0_add 52 = .ok (.dup, 1) := by decide +kernel
theorem dX0_add_53 : decode cX0_add 53 = .ok (.getfield 25, 3) := by decide +kernel
theorem dX0_add_56 : decode cX0_add 56 = .ok (.iconst 1, 1) := by decide +kernel
theorem dX0_add_57 : decode cX0_add 57 = .ok (.iadd, 1) := by decide +kernel
theorem dX0_add_58 : decode cX0_add 58 = .ok (.putfield 25, 3) := by decide +kernel
theorem dX0_add_61 : decode cX0_add 61 = .ok (.return_, 1) := by decide +kernel
set_option maxRecDepth 20000 in
theorem ggX0_remove_X0_has : GoodIn wsX0_remove wsX0_has := goodIn_r _ [10, 1, 11, 12, 13, 14, 15] (by decide +kernel) (by decide +kernel)
set_option maxRecDepth 20000 in
theorem gX0_remove_X0_has : GoodIn wsX0_remove (wsV RX0 29 RX0 yX0_has wsX0_has) := goodIn_app (goodIn_of _ (by decide +kernel)) ggX0_remove_X0_has
theorem dX0_remove_0 : decode cX0_remove 0 = .ok (.aload_n 0, 1) := by decide +kernel
theorem dX0_remove_1 : decode cX0_remove 1 = .ok (.iload_n 1, 1) := by decide +kernel
theorem dX0_remove_2 : decode cX0_remove 2 = .ok (.invokevirtual 29, 3) := by decide +kernel
theorem dX0_remove_5 : decode cX0_remove 5 = .ok (.ifCond .eq 87, 3) := by decide +kernel
theorem dX0_remove_8 : decode cX0_remove 8 = .ok (.iload_n 1, 1) := by decide +kernel
theorem dX0_remove_9 : decode cX0_remove 9 = .ok (.iconst 1, 1) := by decide +kernel
theorem dX0_remove_10 : decode cX0_remove 10 = .ok (.iadd, 1) := by decide +kernel
theorem dX0_remove_11 : decode cX0_remove 11 = .ok (.istore_n 2, 1) := by decide +kernel
theorem dX0_remove_12 : decode cX0_remove 12 = .ok (.iload_n 2, 1) := by decide +kernel
theorem dX0_remove_13 : decode cX0_remove 13 = .ok (.aload_n 0, 1) := by decide +kernel
theorem dX0_remove_14 : decode cX0_remove 14 = .ok (.getfield 25, 3) := by decide +kernel
theorem dX0_remove_17 : decode cX0_remove 17 = .ok (.if_icmp .ge 65, 3) := by decide +kernel
theorem dX0_remove_20 : decode cX0_remove 20 = .ok (.aload_n 0, 1) := by decide +kernel
theorem dX0_remove_21 : decode cX0_remove 21 = .ok (.getfield 9, 3) := by decide +kernel
theorem dX0_remove_24 : decode cX0_remove 24 = .ok (.iload_n 2, 1) := by decide +kernel
theorem dX0_remove_25 : decode cX0_remove 25 = .ok (.iconst 1, 1) := by decide +kernel
theorem dX0_remove_26 : decode cX0_remove 26 = .ok (.isub, 1) := by decide +kernel
theorem dX0_remove_27 : decode cX0_remove 27 = .ok (.aload_n 0, 1) := by decide +kernel
theorem dX0_remove_28 : decode cX0_remove 28 = .ok (.getfield 9, 3) := by decide +kernel
theorem dX0_remove_31 : decode cX0_remove 31 = .ok (.iload_n 2, 1) := by decide +kernel
theorem dX0_remove_32 : decode cX0_remove 32 = .ok (.laload, 1) := by decide +kernel
theorem dX0_remove_33 : decode cX0_remove 33 = .ok (.lastore, 1) := by decide +kernel
theorem dX0_remove_34 : decode cX0_remove 34 = .ok (.aload_n 0, 1) := by decide +kernel
theorem dX0_remove_35 : decode cX0_remove 35 = .ok (.getfield 15, 3) := by decide +kernel
theorem dX0_remove_38 : decode cX0_remove 38 = .ok (.iload_n 2, 1) := by decide +kernel
theorem dX0_remove_39 : decode cX0_remove 39 = .ok (.iconst 1, 1) := by decide +kernel
theorem dX0_remove_40 : decode cX0_remove 40 = .ok (.isub, 1) := by decide +kernel
theorem dX0_remove_41 : decode cX0_remove 41 = .ok (.aload_n 0, 1) := by decide +kernel
theorem dX0_remove_42 : decode cX0_remove 42 = .ok (.getfield 15, 3) := by decide +kernel
theorem dX0_remove_45 : decode cX0_remove 45 = .ok (.iload_n 2, 1) := by decide +kernel
theorem dX0_remove_46 : decode cX0_remove 46 = .ok (.iaload, 1) := by decide +kernel
theorem dX0_remove_47 : decode cX0_remove 47 = .ok (.iastore, 1) := by decide +kernel
theorem dX0_remove_48 : decode cX0_remove 48 = .ok (.aload_n 0, 1) := by decide +kernel
theorem dX0_remove_49 : decode cX0_remove 49 = .ok (.getfield 19, 3) := by decide +kernel
theorem dX0_remove_52 : decode cX0_remove 52 = .ok (.iload_n 2, 1) := by decide +kernel
theorem dX0_remove_53 : decode cX0_remove 53 = .ok (.iconst 1, 1) := by decide +kernel
theorem dX0_remove_54 : decode cX0_remove 54 = .ok (.isub, 1) := by decide +kernel
theorem dX0_remove_55 : decode cX0_remove 55 = .ok (.aload_n 0, 1) := by decide +kernel
theorem dX0_remove_56 : decode cX0_remove 56 = .ok (.getfield 19, 3) := by decide +kernel
theorem dX0_remove_59 : decode cX0_remove 59 = .ok (.iload_n 2, 1) := by decide +kernel
theorem dX0_remove_60 : decode cX0_remove 60 = .ok (.iaload, 1) := by decide +kernel
theorem dX0_remove_61 : decode cX0_remove 61 = .ok (.iastore, 1) := by decide +kernel
theorem dX0_remove_62 : decode cX0_remove 62 = .ok (.aload_n 0, 1) := by decide +kernel
theorem dX0_remove_63 : decode cX0_remove 63 = .ok (.getfield 22, 3) := by decide +kernel
theorem dX0_remove_66 : decode cX0_remove 66 = .ok (.iload_n 2, 1) := by decide +kernel
theorem dX0_remove_67 : decode cX0_remove 67 = .ok (.iconst 1, 1) := by decide +kernel
theorem dX0_remove_68 : decode cX0_remove 68 = .ok (.isub, 1) := by decide +kernel
theorem dX0_remove_69 : decode cX0_remove 69 = .ok (.aload_n 0, 1) := by decide +kernel
theorem dX0_remove_70 : decode cX0_remove 70 = .ok (.getfield 22, 3) := by decide +kernel
theorem dX0_remove_73 : decode cX0_remove 73 = .ok (.iload_n 2, 1) := by decide +kernel
theorem dX0_remove_74 : decode cX0_remove 74 = .ok (.iaload, 1) := by decide +kernel
theorem dX0_remove_75 : decode cX0_remove 75 = .ok (.iastore, 1) := by decide +kernel
theorem dX0_remove_76 : decode cX0_remove 76 = .ok (.iinc 2 1, 3) := by decide +kernel
theorem dX0_remove_79 : decode cX0_remove 79 = .ok (.goto (-67), 3) := by decide +kernel
theorem dX0_remove_82 : decode cX0_remove 82 = .ok (.aload_n 0, 1) := by decide +kernel
theorem dX0_remove_83 : decode cX0_remove 83 = .ok (.dup, 1) := by decide +kernel
theorem dX0_remove_84 : decode cX0_remove 84 = .ok (.getfield 25, 3) := by decide +kernel
theorem dX0_remove_87 : decode cX0_remove 87 = .ok (.iconst 1, 1) := by decide +kernel
theorem dX0_remove_88 : decode cX0_remove 88 = .ok (.isub, 1) := by decide +kernel
theorem dX0_remove_89 : decode cX0_remove 89 = .ok (.putfield 25, 3) := by decide +kernel
theorem dX0_remove_92 : decode cX0_remove 92 = .ok (.return_, 1) := by decide +kernel
theorem dX0_indexFor_0 : decode cX0_indexFor 0 = .ok (.iload_n 2, 1) := by decide +kernel
theorem dX0_indexFor_1 : decode cX0_indexFor 1 = .ok (.lookupswitch 43 #[(0, 27), (1, 35)], 27) := by decide +kernel
theorem dX0_indexFor_28 : decode cX0_indexFor 28 = .ok (.aload_n 0, 1) := by decide +kernel
theorem dX0_indexFor_29 : decode cX0_indexFor 29 = .ok (.getfield 15, 3) := by decide +kernel
theorem dX0_indexFor_32 : decode cX0_indexFor 32 = .ok (.iload_n 1, 1) := by decide +kernel
theorem dX0_indexFor_33 : decode cX0_indexFor 33 = .ok (.iaload, 1) := by decide +kernel
theorem dX0_indexFor_34 : decode cX0_indexFor 34 = .ok (.i2l, 1) := by decide +kernel
theorem dX0_indexFor_35 : decode cX0_indexFor 35 = .ok (.lreturn, 1) := by decide +kernel
theorem dX0_indexFor_36 : decode cX0_indexFor 36 = .ok (.aload_n 0, 1) := by decide +kernel
theorem dX0_indexFor_37 : decode cX0_indexFor 37 = .ok (.getfield 19, 3) := by decide +kernel
theorem dX0_indexFor_40 : decode cX0_indexFor 40 = .ok (.iload_n 1, 1) := by decide +kernel
theorem dX0_indexFor_41 : decode cX0_indexFor 41 = .ok (.iaload, 1) := by decide +kernel
theorem dX0_indexFor_42 : decode cX0_indexFor 42 = .ok (.i2l, 1) := by decide +kernel
theorem dX0_indexFor_43 : decode cX0_indexFor 43 = .ok (.lreturn, 1) := by decide +kernel
theorem dX0_indexFor_44 : decode cX0_indexFor 44 = .ok (.aload_n 0, 1) := by decide +kernel
theorem dX0_indexFor_45 : decode cX0_indexFor 45 = .ok (.getfield 22, 3) := by decide +kernel
theorem dX0_indexFor_48 : decode cX0_indexFor 48 = .ok (.iload_n 1, 1) := by decide +kernel
theorem dX0_indexFor_49 : decode cX0_indexFor 49 = .ok (.iaload, 1) := by decide +kernel
theorem dX0_indexFor_50 : decode cX0_indexFor 50 = .ok (.i2l, 1) := by decide +kernel
theorem dX0_indexFor_51 : decode cX0_indexFor 51 = .ok (.lreturn, 1) := by decide +kernel
theorem dX0_namesBefore_0 : decode cX0_namesBefore 0 = .ok (.iconst 0, 1) := by decide +kernel
theorem dX0_namesBefore_1 : decode cX0_namesBefore 1 = .ok (.istore_n 2, 1) := by decide +kernel
theorem dX0_namesBefore_2 : decode cX0_namesBefore 2 = .ok (.iconst 0, 1) := by decide +kernel
theorem dX0_namesBefore_3 : decode cX0_namesBefore 3 = .ok (.istore_n 3, 1) := by decide +kernel
theorem dX0_namesBefore_4 : decode cX0_namesBefore 4 = .ok (.iload_n 3, 1) := by decide +kernel
theorem dX0_namesBefore_5 : decode cX0_namesBefore 5 = .ok (.aload_n 0, 1) := by decide +kernel
theorem dX0_namesBefore_6 : decode cX0_namesBefore 6 = .ok (.getfield 25, 3) := by decide +kernel
theorem dX0_namesBefore_9 : decode cX0_namesBefore 9 = .ok (.if_icmp .ge 28, 3) := by decide +kernel
theorem dX0_namesBefore_12 : decode cX0_namesBefore 12 = .ok (.aload_n 0, 1) := by decide +kernel
theorem dX0_namesBefore_13 : decode cX0_namesBefore 13 = .ok (.getfield 9, 3) := by decide +kernel
theorem dX0_namesBefore_16 : decode cX0_namesBefore 16 = .ok (.iload_n 3, 1) := by decide +kernel
theorem dX0_namesBefore_17 : decode cX0_namesBefore 17 = .ok (.laload, 1) := by decide +kernel
theorem dX0_namesBefore_18 : decode cX0_namesBefore 18 = .ok (.aload_n 0, 1) := by decide +kernel
theorem dX0_namesBefore_19 : decode cX0_namesBefore 19 = .ok (.getfield 9, 3) := by decide +kernel
theorem dX0_namesBefore_22 : decode cX0_namesBefore 22 = .ok (.iload_n 1, 1) := by decide +kernel
theorem dX0_namesBefore_23 : decode cX0_namesBefore 23 = .ok (.laload, 1) := by decide +kernel
theorem dX0_namesBefore_24 : decode cX0_namesBefore 24 = .ok (.lcmp, 1) := by decide +kernel
theorem dX0_namesBefore_25 : decode cX0_namesBefore 25 = .ok (.ifCond .ge 6, 3) := by decide +kernel
theorem dX0_namesBefore_28 : decode cX0_namesBefore 28 = .ok (.iinc 2 1, 3) := by decide +kernel
theorem dX0_namesBefore_31 : decode cX0_namesBefore 31 = .ok (.iinc 3 1, 3) := by decide +kernel
theorem dX0_namesBefore_34 : decode cX0_namesBefore 34 = .ok (.goto (-30), 3) := by decide +kernel
theorem dX0_namesBefore_37 : decode cX0_namesBefore 37 = .ok (.iload_n 2, 1) := by decide +kernel
theorem dX0_namesBefore_38 : decode cX0_namesBefore 38 = .ok (.ireturn, 1) := by decide +kernel
set_option maxRecDepth 20000 in
theorem ggX0_abbeNumber_X0_valueA : GoodIn wsX0_abbeNumber wsX0_valueA := goodIn_r _ [6, 7, 8, 22, 23, 24, 25, 26] (by decide +kernel) (by decide +kernel)
set_option maxRecDepth 20000 in
theorem gX0_abbeNumber_X0_valueA : GoodIn wsX0_abbeNumber (wsV RX0 35 RX0 yX0_valueA wsX0_valueA) := goodIn_app (goodIn_of _ (by decide +kernel)) ggX0_abbeNumber_X0_valueA
set_option maxRecDepth 20000 in
theorem ggX0_abbeNumber_X0_valueB : GoodIn wsX0_abbeNumber wsX0_valueB := goodIn_r _ [12, 13, 14, 22, 23, 24, 25, 26] (by decide +kernel) (by decide +kernel)
set_option maxRecDepth 20000 in
theorem gX0_abbeNumber_X0_valueB : GoodIn wsX0_abbeNumber (wsV RX0 39 RX0 yX0_valueB wsX0_valueB) := goodIn_app (goodIn_of _ (by decide +kernel)) ggX0_abbeNumber_X0_valueB
set_option maxRecDepth 20000 in
theorem ggX0_abbeNumber_X5_floorQuotient : GoodIn wsX0_abbeNumber wsX5_floorQuotient := goodIn_r _ [17, 18, 19, 20, 21] (by decide +kernel) (by decide +kernel)
set_option maxRecDepth 20000 in
theorem gX0_abbeNumber_X5_floorQuotient_n42 : GoodIn wsX0_abbeNumber (wsX5_floorQuotient) := ggX0_abbeNumber_X5_floorQuotient
theorem dX0_abbeNumber_0 : decode cX0_abbeNumber 0 = .ok (.ldc2_w 33, 3) := by decide +kernel
theorem dX0_abbeNumber_3 : decode cX0_abbeNumber 3 = .ok (.aload_n 0, 1) := by decide +kernel
theorem dX0_abbeNumber_4 : decode cX0_abbeNumber 4 = .ok (.iload_n 1, 1) := by decide +kernel
theorem dX0_abbeNumber_5 : decode cX0_abbeNumber 5 = .ok (.invokevirtual 35, 3) := by decide +kernel
theorem dX0_abbeNumber_8 : decode cX0_abbeNumber 8 = .ok (.lmul, 1) := by decide +kernel
theorem dX0_abbeNumber_9 : decode cX0_abbeNumber 9 = .ok (.aload_n 0, 1) := by decide +kernel
theorem dX0_abbeNumber_10 : decode cX0_abbeNumber 10 = .ok (.iload_n 1, 1) := by decide +kernel
theorem dX0_abbeNumber_11 : decode cX0_abbeNumber 11 = .ok (.invokevirtual 39, 3) := by decide +kernel
theorem dX0_abbeNumber_14 : decode cX0_abbeNumber 14 = .ok (.invokestatic 42, 3) := by decide +kernel
theorem dX0_abbeNumber_17 : decode cX0_abbeNumber 17 = .ok (.lreturn, 1) := by decide +kernel
set_option maxRecDepth 20000 in
theorem ggX0_leastAbbeFrom_X0_abbeNumber : GoodIn wsX0_leastAbbeFrom wsX0_abbeNumber := goodIn_r _ [6, 7, 8, 9, 10, 5, 11, 12, 13, 14, 15, 16, 17, 18, 19, 20, 21, 22, 23, 24, 25, 26, 27, 28, 29, 30, 31] (by decide +kernel) (by decide +kernel)
set_option maxRecDepth 20000 in
theorem gX0_leastAbbeFrom_X0_abbeNumber : GoodIn wsX0_leastAbbeFrom (wsV RX0 46 RX0 yX0_abbeNumber wsX0_abbeNumber) := goodIn_app (goodIn_of _ (by decide +kernel)) ggX0_leastAbbeFrom_X0_abbeNumber
theorem dX0_leastAbbeFrom_0 : decode cX0_leastAbbeFrom 0 = .ok (.iconst (-1), 1) := by decide +kernel
theorem dX0_leastAbbeFrom_1 : decode cX0_leastAbbeFrom 1 = .ok (.istore_n 2, 1) := by decide +kernel
theorem dX0_leastAbbeFrom_2 : decode cX0_leastAbbeFrom 2 = .ok (.lconst 0, 1) := by decide +kernel
theorem dX0_leastAbbeFrom_3 : decode cX0_leastAbbeFrom 3 = .ok (.lstore_n 3, 1) := by decide +kernel
theorem dX0_leastAbbeFrom_4 : decode cX0_leastAbbeFrom 4 = .ok (.iconst 0, 1) := by decide +kernel
theorem dX0_leastAbbeFrom_5 : decode cX0_leastAbbeFrom 5 = .ok (.istore 5, 2) := by decide +kernel
theorem dX0_leastAbbeFrom_7 : decode cX0_leastAbbeFrom 7 = .ok (.iload 5, 2) := by decide +kernel
theorem dX0_leastAbbeFrom_9 : decode cX0_leastAbbeFrom 9 = .ok (.aload_n 0, 1) := by decide +kernel
theorem dX0_leastAbbeFrom_10 : decode cX0_leastAbbeFrom 10 = .ok (.getfield 25, 3) := by decide +kernel
theorem dX0_leastAbbeFrom_13 : decode cX0_leastAbbeFrom 13 = .ok (.if_icmp .ge 42, 3) := by decide +kernel
theorem dX0_leastAbbeFrom_16 : decode cX0_leastAbbeFrom 16 = .ok (.aload_n 0, 1) := by decide +kernel
theorem dX0_leastAbbeFrom_17 : decode cX0_leastAbbeFrom 17 = .ok (.iload 5, 2) := by decide +kernel
theorem dX0_leastAbbeFrom_19 : decode cX0_leastAbbeFrom 19 = .ok (.invokevirtual 46, 3) := by decide +kernel
theorem dX0_leastAbbeFrom_22 : decode cX0_leastAbbeFrom 22 = .ok (.lstore 6, 2) := by decide +kernel
theorem dX0_leastAbbeFrom_24 : decode cX0_leastAbbeFrom 24 = .ok (.lload 6, 2) := by decide +kernel
theorem dX0_leastAbbeFrom_26 : decode cX0_leastAbbeFrom 26 = .ok (.iload_n 1, 1) := by decide +kernel
theorem dX0_leastAbbeFrom_27 : decode cX0_leastAbbeFrom 27 = .ok (.i2l, 1) := by decide +kernel
theorem dX0_leastAbbeFrom_28 : decode cX0_leastAbbeFrom 28 = .ok (.lcmp, 1) := by decide +kernel
theorem dX0_leastAbbeFrom_29 : decode cX0_leastAbbeFrom 29 = .ok (.ifCond .lt 20, 3) := by decide +kernel
theorem dX0_leastAbbeFrom_32 : decode cX0_leastAbbeFrom 32 = .ok (.iload_n 2, 1) := by decide +kernel
theorem dX0_leastAbbeFrom_33 : decode cX0_leastAbbeFrom 33 = .ok (.ifCond .lt 10, 3) := by decide +kernel
theorem dX0_leastAbbeFrom_36 : decode cX0_leastAbbeFrom 36 = .ok (.lload 6, 2) := by decide +kernel
theorem dX0_leastAbbeFrom_38 : decode cX0_leastAbbeFrom 38 = .ok (.lload_n 3, 1) := by decide +kernel
theorem dX0_leastAbbeFrom_39 : decode cX0_leastAbbeFrom 39 = .ok (.lcmp, 1) := by decide +kernel
theorem dX0_leastAbbeFrom_40 : decode cX0_leastAbbeFrom 40 = .ok (.ifCond .ge 9, 3) := by decide +kernel
theorem dX0_leastAbbeFrom_43 : decode cX0_leastAbbeFrom 43 = .ok (.iload 5, 2) := by decide +kernel
theorem dX0_leastAbbeFrom_45 : decode cX0_leastAbbeFrom 45 = .ok (.istore_n 2, 1) := by decide +kernel
theorem dX0_leastAbbeFrom_46 : decode cX0_leastAbbeFrom 46 = .ok (.lload 6, 2) := by decide +kernel
theorem dX0_leastAbbeFrom_48 : decode cX0_leastAbbeFrom 48 = .ok (.lstore_n 3, 1) := by decide +kernel
theorem dX0_leastAbbeFrom_49 : decode cX0_leastAbbeFrom 49 = .ok (.iinc 5 1, 3) := by decide +kernel
theorem dX0_leastAbbeFrom_52 : decode cX0_leastAbbeFrom 52 = .ok (.goto (-45), 3) := by decide +kernel
theorem dX0_leastAbbeFrom_55 : decode cX0_leastAbbeFrom 55 = .ok (.iload_n 2, 1) := by decide +kernel
theorem dX0_leastAbbeFrom_56 : decode cX0_leastAbbeFrom 56 = .ok (.ireturn, 1) := by decide +kernel
theorem dX0_valueA_0 : decode cX0_valueA 0 = .ok (.aload_n 0, 1) := by decide +kernel
theorem dX0_valueA_1 : decode cX0_valueA 1 = .ok (.getfield 19, 3) := by decide +kernel
theorem dX0_valueA_4 : decode cX0_valueA 4 = .ok (.iload_n 1, 1) := by decide +kernel
theorem dX0_valueA_5 : decode cX0_valueA 5 = .ok (.iaload, 1) := by decide +kernel
theorem dX0_valueA_6 : decode cX0_valueA 6 = .ok (.ldc 49, 2) := by decide +kernel
theorem dX0_valueA_8 : decode cX0_valueA 8 = .ok (.isub, 1) := by decide +kernel
theorem dX0_valueA_9 : decode cX0_valueA 9 = .ok (.i2l, 1) := by decide +kernel
theorem dX0_valueA_10 : decode cX0_valueA 10 = .ok (.lreturn, 1) := by decide +kernel
theorem dX0_valueB_0 : decode cX0_valueB 0 = .ok (.aload_n 0, 1) := by decide +kernel
theorem dX0_valueB_1 : decode cX0_valueB 1 = .ok (.getfield 15, 3) := by decide +kernel
theorem dX0_valueB_4 : decode cX0_valueB 4 = .ok (.iload_n 1, 1) := by decide +kernel
theorem dX0_valueB_5 : decode cX0_valueB 5 = .ok (.iaload, 1) := by decide +kernel
theorem dX0_valueB_6 : decode cX0_valueB 6 = .ok (.aload_n 0, 1) := by decide +kernel
theorem dX0_valueB_7 : decode cX0_valueB 7 = .ok (.getfield 22, 3) := by decide +kernel
theorem dX0_valueB_10 : decode cX0_valueB 10 = .ok (.iload_n 1, 1) := by decide +kernel
theorem dX0_valueB_11 : decode cX0_valueB 11 = .ok (.iaload, 1) := by decide +kernel
theorem dX0_valueB_12 : decode cX0_valueB 12 = .ok (.isub, 1) := by decide +kernel
theorem dX0_valueB_13 : decode cX0_valueB 13 = .ok (.i2l, 1) := by decide +kernel
theorem dX0_valueB_14 : decode cX0_valueB 14 = .ok (.lreturn, 1) := by decide +kernel
theorem dX0_valueD_0 : decode cX0_valueD 0 = .ok (.aload_n 0, 1) := by decide +kernel
theorem dX0_valueD_1 : decode cX0_valueD 1 = .ok (.getfield 15, 3) := by decide +kernel
theorem dX0_valueD_4 : decode cX0_valueD 4 = .ok (.iload_n 1, 1) := by decide +kernel
theorem dX0_valueD_5 : decode cX0_valueD 5 = .ok (.iaload, 1) := by decide +kernel
theorem dX0_valueD_6 : decode cX0_valueD 6 = .ok (.aload_n 0, 1) := by decide +kernel
theorem dX0_valueD_7 : decode cX0_valueD 7 = .ok (.getfield 19, 3) := by decide +kernel
theorem dX0_valueD_10 : decode cX0_valueD 10 = .ok (.iload_n 1, 1) := by decide +kernel
theorem dX0_valueD_11 : decode cX0_valueD 11 = .ok (.iaload, 1) := by decide +kernel
theorem dX0_valueD_12 : decode cX0_valueD 12 = .ok (.isub, 1) := by decide +kernel
theorem dX0_valueD_13 : decode cX0_valueD 13 = .ok (.i2l, 1) := by decide +kernel
theorem dX0_valueD_14 : decode cX0_valueD 14 = .ok (.lreturn, 1) := by decide +kernel
set_option maxRecDepth 20000 in
theorem ggX0_valueE_X0_valueA : GoodIn wsX0_valueE wsX0_valueA := goodIn_r _ [5, 6, 7, 14, 15, 16, 17, 18] (by decide +kernel) (by decide +kernel)
set_option maxRecDepth 20000 in
theorem gX0_valueE_X0_valueA : GoodIn wsX0_valueE (wsV RX0 35 RX0 yX0_valueA wsX0_valueA) := goodIn_app (goodIn_of _ (by decide +kernel)) ggX0_valueE_X0_valueA
set_option maxRecDepth 20000 in
theorem ggX0_valueE_X0_valueB : GoodIn wsX0_valueE wsX0_valueB := goodIn_r _ [11, 12, 13, 14, 15, 16, 17, 18] (by decide +kernel) (by decide +kernel)
set_option maxRecDepth 20000 in
theorem gX0_valueE_X0_valueB : GoodIn wsX0_valueE (wsV RX0 39 RX0 yX0_valueB wsX0_valueB) := goodIn_app (goodIn_of _ (by decide +kernel)) ggX0_valueE_X0_valueB
theorem dX0_valueE_0 : decode cX0_valueE 0 = .ok (.aload_n 0, 1) := by decide +kernel
theorem dX0_valueE_1 : decode cX0_valueE 1 = .ok (.iload_n 1, 1) := by decide +kernel
theorem dX0_valueE_2 : decode cX0_valueE 2 = .ok (.invokevirtual 35, 3) := by decide +kernel
theorem dX0_valueE_5 : decode cX0_valueE 5 = .ok (.aload_n 0, 1) := by decide +kernel
theorem dX0_valueE_6 : decode cX0_valueE 6 = .ok (.iload_n 2, 1) := by decide +kernel
theorem dX0_valueE_7 : decode cX0_valueE 7 = .ok (.invokevirtual 39, 3) := by decide +kernel
theorem dX0_valueE_10 : decode cX0_valueE 10 = .ok (.lmul, 1) := by decide +kernel
theorem dX0_valueE_11 : decode cX0_valueE 11 = .ok (.aload_n 0, 1) := by decide +kernel
theorem dX0_valueE_12 : decode cX0_valueE 12 = .ok (.iload_n 2, 1) := by decide +kernel
theorem dX0_valueE_13 : decode cX0_valueE 13 = .ok (.invokevirtual 35, 3) := by decide +kernel
theorem dX0_valueE_16 : decode cX0_valueE 16 = .ok (.aload_n 0, 1) := by decide +kernel
theorem dX0_valueE_17 : decode cX0_valueE 17 = .ok (.iload_n 1, 1) := by decide +kernel
theorem dX0_valueE_18 : decode cX0_valueE 18 = .ok (.invokevirtual 39, 3) := by decide +kernel
theorem dX0_valueE_21 : decode cX0_valueE 21 = .ok (.lmul, 1) := by decide +kernel
theorem dX0_valueE_22 : decode cX0_valueE 22 = .ok (.lsub, 1) := by decide +kernel
theorem dX0_valueE_23 : decode cX0_valueE 23 = .ok (.lreturn, 1) := by decide +kernel
set_option maxRecDepth 20000 in
theorem ggX0_valueX_X0_valueB : GoodIn wsX0_valueX wsX0_valueB := goodIn_r _ [5, 6, 7, 13, 14, 15, 16, 17] (by decide +kernel) (by decide +kernel)
set_option maxRecDepth 20000 in
theorem gX0_valueX_X0_valueB : GoodIn wsX0_valueX (wsV RX0 39 RX0 yX0_valueB wsX0_valueB) := goodIn_app (goodIn_of _ (by decide +kernel)) ggX0_valueX_X0_valueB
set_option maxRecDepth 20000 in
theorem ggX0_valueX_X0_valueD : GoodIn wsX0_valueX wsX0_valueD := goodIn_r _ [11, 6, 12, 13, 14, 15, 16, 17] (by decide +kernel) (by decide +kernel)
set_option maxRecDepth 20000 in
theorem gX0_valueX_X0_valueD : GoodIn wsX0_valueX (wsV RX0 50 RX0 yX0_valueD wsX0_valueD) := goodIn_app (goodIn_of _ (by decide +kernel)) ggX0_valueX_X0_valueD
theorem dX0_valueX_0 : decode cX0_valueX 0 = .ok (.aload_n 0, 1) := by decide +kernel
theorem dX0_valueX_1 : decode cX0_valueX 1 = .ok (.iload_n 1, 1) := by decide +kernel
theorem dX0_valueX_2 : decode cX0_valueX 2 = .ok (.invokevirtual 39, 3) := by decide +kernel
theorem dX0_valueX_5 : decode cX0_valueX 5 = .ok (.aload_n 0, 1) := by decide +kernel
theorem dX0_valueX_6 : decode cX0_valueX 6 = .ok (.iload_n 2, 1) := by decide +kernel
theorem dX0_valueX_7 : decode cX0_valueX 7 = .ok (.invokevirtual 50, 3) := by decide +kernel
theorem dX0_valueX_10 : decode cX0_valueX 10 = .ok (.lmul, 1) := by decide +kernel
theorem dX0_valueX_11 : decode cX0_valueX 11 = .ok (.aload_n 0, 1) := by decide +kernel
theorem dX0_valueX_12 : decode cX0_valueX 12 = .ok (.iload_n 2, 1) := by decide +kernel
theorem dX0_valueX_13 : decode cX0_valueX 13 = .ok (.invokevirtual 39, 3) := by decide +kernel
theorem dX0_valueX_16 : decode cX0_valueX 16 = .ok (.aload_n 0, 1) := by decide +kernel
theorem dX0_valueX_17 : decode cX0_valueX 17 = .ok (.iload_n 1, 1) := by decide +kernel
theorem dX0_valueX_18 : decode cX0_valueX 18 = .ok (.invokevirtual 50, 3) := by decide +kernel
theorem dX0_valueX_21 : decode cX0_valueX 21 = .ok (.lmul, 1) := by decide +kernel
theorem dX0_valueX_22 : decode cX0_valueX 22 = .ok (.lsub, 1) := by decide +kernel
theorem dX0_valueX_23 : decode cX0_valueX 23 = .ok (.lreturn, 1) := by decide +kernel
set_option maxRecDepth 20000 in
theorem ggX0_tripletShare_X0_valueA : GoodIn wsX0_tripletShare wsX0_valueA := goodIn_r _ [5, 6, 7, 22, 23, 24, 25, 26] (by decide +kernel) (by decide +kernel)
set_option maxRecDepth 20000 in
theorem gX0_tripletShare_X0_valueA : GoodIn wsX0_tripletShare (wsV RX0 35 RX0 yX0_valueA wsX0_valueA) := goodIn_app (goodIn_of _ (by decide +kernel)) ggX0_tripletShare_X0_valueA
set_option maxRecDepth 20000 in
theorem ggX0_tripletShare_X0_valueX : GoodIn wsX0_tripletShare wsX0_valueX := goodIn_r _ [11, 12, 13, 14, 4, 15, 16, 17, 18, 19, 20, 21, 6, 22, 23, 24, 25, 26] (by decide +kernel) (by decide +kernel)
set_option maxRecDepth 20000 in
theorem gX0_tripletShare_X0_valueX : GoodIn wsX0_tripletShare (wsV RX0 53 RX0 yX0_valueX wsX0_valueX) := goodIn_app (goodIn_of _ (by decide +kernel)) ggX0_tripletShare_X0_valueX
theorem dX0_tripletShare_0 : decode cX0_tripletShare 0 = .ok (.aload_n 0, 1) := by decide +kernel
theorem dX0_tripletShare_1 : decode cX0_tripletShare 1 = .ok (.iload_n 1, 1) := by decide +kernel
theorem dX0_tripletShare_2 : decode cX0_tripletShare 2 = .ok (.invokevirtual 35, 3) := by decide +kernel
theorem dX0_tripletShare_5 : decode cX0_tripletShare 5 = .ok (.aload_n 0, 1) := by decide +kernel
theorem dX0_tripletShare_6 : decode cX0_tripletShare 6 = .ok (.iload_n 2, 1) := by decide +kernel
theorem dX0_tripletShare_7 : decode cX0_tripletShare 7 = .ok (.iload_n 3, 1) := by decide +kernel
theorem dX0_tripletShare_8 : decode cX0_tripletShare 8 = .ok (.invokevirtual 53, 3) := by decide +kernel
theorem dX0_tripletShare_11 : decode cX0_tripletShare 11 = .ok (.lmul, 1) := by decide +kernel
theorem dX0_tripletShare_12 : decode cX0_tripletShare 12 = .ok (.lreturn, 1) := by decide +kernel
theorem dX1_init_0 : decode cX1_init 0 = .ok (.aload_n 0, 1) := by decide +kernel
theorem dX1_init_1 : decode cX1_init 1 = .ok (.invokespecial 3, 3) := by decide +kernel
theorem dX1_init_4 : decode cX1_init 4 = .ok (.aload_n 0, 1) := by decide +kernel
theorem dX1_init_5 : decode cX1_init 5 = .ok (.sipush 190, 3) := by decide +kernel
theorem dX1_init_8 : decode cX1_init 8 = .ok (.newarray .int, 2) := by decide +kernel
theorem dX1_init_10 : decode cX1_init 10 = .ok (.putfield 9, 3) := by decide +kernel
theorem dX1_init_13 : decode cX1_init 13 = .ok (.aload_n 0, 1) := by decide +kernel
theorem dX1_init_14 : decode cX1_init 14 = .ok (.sipush 190, 3) := by decide +kernel
theorem dX1_init_17 : decode cX1_init 17 = .ok (.newarray .long, 2) := by decide +kernel
theorem dX1_init_19 : decode cX1_init 19 = .ok (.putfield 15, 3) := by decide +kernel
theorem dX1_init_22 : decode cX1_init 22 = .ok (.aload_n 0, 1) := by decide +kernel
theorem dX1_init_23 : decode cX1_init 23 = .ok (.sipush 190, 3) := by decide +kernel
theorem dX1_init_26 : decode cX1_init 26 = .ok (.newarray .long, 2) := by decide +kernel
theorem dX1_init_28 : decode cX1_init 28 = .ok (.putfield 19, 3) := by decide +kernel
theorem dX1_init_31 : decode cX1_init 31 = .ok (.aload_n 0, 1) := by decide +kernel
theorem dX1_init_32 : decode cX1_init 32 = .ok (.sipush 190, 3) := by decide +kernel
theorem dX1_init_35 : decode cX1_init 35 = .ok (.newarray .long, 2) := by decide +kernel
theorem dX1_init_37 : decode cX1_init 37 = .ok (.putfield 22, 3) := by decide +kernel
theorem dX1_init_40 : decode cX1_init 40 = .ok (.aload_n 0, 1) := by decide +kernel
theorem dX1_init_41 : decode cX1_init 41 = .ok (.sipush 190, 3) := by decide +kernel
theorem dX1_init_44 : decode cX1_init 44 = .ok (.newarray .int, 2) := by decide +kernel
theorem dX1_init_46 : decode cX1_init 46 = .ok (.putfield 25, 3) := by decide +kernel
theorem dX1_init_49 : decode cX1_init 49 = .ok (.return_, 1) := by decide +kernel
set_option maxRecDepth 20000 in
theorem ggX1_collect_X0_valueE : GoodIn wsX1_collect wsX0_valueE := goodIn_r _ [6, 7, 8, 9, 5, 10, 11, 12, 13, 14, 15, 16, 17, 18, 48, 49, 50, 51, 52] (by decide +kernel) (by decide +kernel)
set_option maxRecDepth 20000 in
theorem gX1_collect_X0_valueE : GoodIn wsX1_collect (wsV RX1 35 RX0 yX0_valueE wsX0_valueE) := goodIn_app (goodIn_of _ (by decide +kernel)) ggX1_collect_X0_valueE
set_option maxRecDepth 20000 in
theorem ggX1_collect_X1_keep : GoodIn wsX1_collect wsX1_keep := goodIn_r _ [23, 24, 1, 25, 26, 27, 28, 29, 30, 31, 2, 3, 4, 5, 6, 7, 8, 9, 10, 11, 12, 13, 14, 15, 16, 17, 18, 32, 33, 34, 35, 36, 37, 38, 39, 40, 41, 42, 43, 44, 45, 46, 47, 48, 49, 50, 51, 52] (by decide +kernel) (by decide +kernel)
set_option maxRecDepth 20000 in
theorem gX1_collect_X1_keep : GoodIn wsX1_collect (wsV RX1 39 RX1 yX1_keep wsX1_keep) := goodIn_app (goodIn_of _ (by decide +kernel)) ggX1_collect_X1_keep
theorem dX1_collect_0 : decode cX1_collect 0 = .ok (.aload_n 0, 1) := by decide +kernel
theorem dX1_collect_1 : decode cX1_collect 1 = .ok (.iconst 0, 1) := by decide +kernel
theorem dX1_collect_2 : decode cX1_collect 2 = .ok (.putfield 28, 3) := by decide +kernel
theorem dX1_collect_5 : decode cX1_collect 5 = .ok (.iconst 0, 1) := by decide +kernel
theorem dX1_collect_6 : decode cX1_collect 6 = .ok (.istore_n 2, 1) := by decide +kernel
theorem dX1_collect_7 : decode cX1_collect 7 = .ok (.iload_n 2, 1) := by decide +kernel
theorem dX1_collect_8 : decode cX1_collect 8 = .ok (.aload_n 1, 1) := by decide +kernel
theorem dX1_collect_9 : decode cX1_collect 9 = .ok (.getfield 32, 3) := by decide +kernel
theorem dX1_collect_12 : decode cX1_collect 12 = .ok (.if_icmp .ge 53, 3) := by decide +kernel
theorem dX1_collect_15 : decode cX1_collect 15 = .ok (.iconst 0, 1) := by decide +kernel
theorem dX1_collect_16 : decode cX1_collect 16 = .ok (.istore_n 3, 1) := by decide +kernel
theorem dX1_collect_17 : decode cX1_collect 17 = .ok (.iload_n 3, 1) := by decide +kernel
theorem dX1_collect_18 : decode cX1_collect 18 = .ok (.aload_n 1, 1) := by decide +kernel
theorem dX1_collect_19 : decode cX1_collect 19 = .ok (.getfield 32, 3) := by decide +kernel
theorem dX1_collect_22 : decode cX1_collect 22 = .ok (.if_icmp .ge 37, 3) := by decide +kernel
theorem dX1_collect_25 : decode cX1_collect 25 = .ok (.aload_n 1, 1) := by decide +kernel
theorem dX1_collect_26 : decode cX1_collect 26 = .ok (.iload_n 2, 1) := by decide +kernel
theorem dX1_collect_27 : decode cX1_collect 27 = .ok (.iload_n 3, 1) := by decide +kernel
theorem dX1_collect_28 : decode cX1_collect 28 = .ok (.invokevirtual 35, 3) := by decide +kernel
theorem dX1_collect_31 : decode cX1_collect 31 = .ok (.lconst 0, 1) := by decide +kernel
theorem dX1_collect_32 : decode cX1_collect 32 = .ok (.lcmp, 1) := by decide +kernel
theorem dX1_collect_33 : decode cX1_collect 33 = .ok (.ifCond .le 20, 3) := by decide +kernel
theorem dX1_collect_36 : decode cX1_collect 36 = .ok (.aload_n 0, 1) := by decide +kernel
theorem dX1_collect_37 : decode cX1_collect 37 = .ok (.getfield 28, 3) := by decide +kernel
theorem dX1_collect_40 : decode cX1_collect 40 = .ok (.sipush 190, 3) := by decide +kernel
theorem dX1_collect_43 : decode cX1_collect 43 = .ok (.if_icmp .ge 10, 3) := by decide +kernel
theorem dX1_collect_46 : decode cX1_collect 46 = .ok (.aload_n 0, 1) := by decide +kernel
theorem dX1_collect_47 : decode cX1_collect 47 = .ok (.iload_n 2, 1) := by decide +kernel
theorem dX1_collect_48 : decode cX1_collect 48 = .ok (.iload_n 3, 1) := by decide +kernel
theorem dX1_collect_49 : decode cX1_collect 49 = .ok (.aload_n 1, 1) := by decide +kernel
theorem dX1_collect_50 : decode cX1_collect 50 = .ok (.invokevirtual 39, 3) := by decide +kernel
theorem dX1_collect_53 : decode cX1_collect 53 = .ok (.iinc 3 1, 3) := by decide +kernel
theorem dX1_collect_56 : decode cX1_collect 56 = .ok (.goto (-39), 3) := by decide +kernel
theorem dX1_collect_59 : decode cX1_collect 59 = .ok (.iinc 2 1, 3) := by decide +kernel
theorem dX1_collect_62 : decode cX1_collect 62 = .ok (.goto (-55), 3) := by decide +kernel
theorem dX1_collect_65 : decode cX1_collect 65 = .ok (.return_, 1) := by decide +kernel
set_option maxRecDepth 20000 in
theorem ggX1_rank_X1_placeAmong : GoodIn wsX1_rank wsX1_placeAmong := goodIn_r _ [7, 2, 8, 9, 10, 6, 11, 12, 13, 14, 15, 16, 17, 18, 19, 20, 21, 22, 23, 24] (by decide +kernel) (by decide +kernel)
set_option maxRecDepth 20000 in
theorem gX1_rank_X1_placeAmong : GoodIn wsX1_rank (wsV RX1 43 RX1 yX1_placeAmong wsX1_placeAmong) := goodIn_app (goodIn_of _ (by decide +kernel)) ggX1_rank_X1_placeAmong
theorem dX1_rank_0 : decode cX1_rank 0 = .ok (.iconst 0, 1) := by decide +kernel
theorem dX1_rank_1 : decode cX1_rank 1 = .ok (.istore_n 2, 1) := by decide +kernel
theorem dX1_rank_2 : decode cX1_rank 2 = .ok (.iload_n 2, 1) := by decide +kernel
theorem dX1_rank_3 : decode cX1_rank 3 = .ok (.aload_n 0, 1) := by decide +kernel
theorem dX1_rank_4 : decode cX1_rank 4 = .ok (.getfield 28, 3) := by decide +kernel
theorem dX1_rank_7 : decode cX1_rank 7 = .ok (.if_icmp .ge 54, 3) := by decide +kernel
theorem dX1_rank_10 : decode cX1_rank 10 = .ok (.aload_n 0, 1) := by decide +kernel
theorem dX1_rank_11 : decode cX1_rank 11 = .ok (.iload_n 2, 1) := by decide +kernel
theorem dX1_rank_12 : decode cX1_rank 12 = .ok (.iload_n 1, 1) := by decide +kernel
theorem dX1_rank_13 : decode cX1_rank 13 = .ok (.invokevirtual 43, 3) := by decide +kernel
theorem dX1_rank_16 : decode cX1_rank 16 = .ok (.istore_n 3, 1) := by decide +kernel
theorem dX1_rank_17 : decode cX1_rank 17 = .ok (.iload_n 2, 1) := by decide +kernel
theorem dX1_rank_18 : decode cX1_rank 18 = .ok (.istore 4, 2) := by decide +kernel
theorem dX1_rank_20 : decode cX1_rank 20 = .ok (.iload 4, 2) := by decide +kernel
theorem dX1_rank_22 : decode cX1_rank 22 = .ok (.iload_n 3, 1) := by decide +kernel
theorem dX1_rank_23 : decode cX1_rank 23 = .ok (.if_icmp .le 25, 3) := by decide +kernel
theorem dX1_rank_26 : decode cX1_rank 26 = .ok (.aload_n 0, 1) := by decide +kernel
theorem dX1_rank_27 : decode cX1_rank 27 = .ok (.getfield 25, 3) := by decide +kernel
theorem dX1_rank_30 : decode cX1_rank 30 = .ok (.iload 4, 2) := by decide +kernel
theorem dX1_rank_32 : decode cX1_rank 32 = .ok (.aload_n 0, 1) := by decide +kernel
theorem dX1_rank_33 : decode cX1_rank 33 = .ok (.getfield 25, 3) := by decide +kernel
theorem dX1_rank_36 : decode cX1_rank 36 = .ok (.iload 4, 2) := by decide +kernel
theorem dX1_rank_38 : decode cX1_rank 38 = .ok (.iconst 1, 1) := by decide +kernel
theorem dX1_rank_39 : decode cX1_rank 39 = .ok (.isub, 1) := by decide +kernel
theorem dX1_rank_40 : decode cX1_rank 40 = .ok (.iaload, 1) := by decide +kernel
theorem dX1_rank_41 : decode cX1_rank 41 = .ok (.iastore, 1) := by decide +kernel
theorem dX1_rank_42 : decode cX1_rank 42 = .ok (.iinc 4 (-1), 3) := by decide +kernel
theorem dX1_rank_45 : decode cX1_rank 45 = .ok (.goto (-25), 3) := by decide +kernel
theorem dX1_rank_48 : decode cX1_rank 48 = .ok (.aload_n 0, 1) := by decide +kernel
theorem dX1_rank_49 : decode cX1_rank 49 = .ok (.getfield 25, 3) := by decide +kernel
theorem dX1_rank_52 : decode cX1_rank 52 = .ok (.iload_n 3, 1) := by decide +kernel
theorem dX1_rank_53 : decode cX1_rank 53 = .ok (.iload_n 2, 1) := by decide +kernel
theorem dX1_rank_54 : decode cX1_rank 54 = .ok (.iastore, 1) := by decide +kernel
theorem dX1_rank_55 : decode cX1_rank 55 = .ok (.iinc 2 1, 3) := by decide +kernel
theorem dX1_rank_58 : decode cX1_rank 58 = .ok (.goto (-56), 3) := by decide +kernel
theorem dX1_rank_61 : decode cX1_rank 61 = .ok (.return_, 1) := by decide +kernel
theorem dX1_codeAt_0 : decode cX1_codeAt 0 = .ok (.aload_n 0, 1) := by decide +kernel
theorem dX1_codeAt_1 : decode cX1_codeAt 1 = .ok (.getfield 9, 3) := by decide +kernel
theorem dX1_codeAt_4 : decode cX1_codeAt 4 = .ok (.aload_n 0, 1) := by decide +kernel
theorem dX1_codeAt_5 : decode cX1_codeAt 5 = .ok (.getfield 25, 3) := by decide +kernel
theorem dX1_codeAt_8 : decode cX1_codeAt 8 = .ok (.iload_n 1, 1) := by decide +kernel
theorem dX1_codeAt_9 : decode cX1_codeAt 9 = .ok (.iaload, 1) := by decide +kernel
theorem dX1_codeAt_10 : decode cX1_codeAt 10 = .ok (.iaload, 1) := by decide +kernel
theorem dX1_codeAt_11 : decode cX1_codeAt 11 = .ok (.ireturn, 1) := by decide +kernel
set_option maxRecDepth 20000 in
theorem ggX1_keep_X0_valueE : GoodIn wsX1_keep wsX0_valueE := goodIn_r _ [14, 15, 16, 17, 13, 18, 19, 20, 21, 22, 23, 24, 25, 26, 43, 44, 45, 46, 47] (by decide +kernel) (by decide +kernel)
set_option maxRecDepth 20000 in
theorem gX1_keep_X0_valueE : GoodIn wsX1_keep (wsV RX1 35 RX0 yX0_valueE wsX0_valueE) := goodIn_app (goodIn_of _ (by decide +kernel)) ggX1_keep_X0_valueE
set_option maxRecDepth 20000 in
theorem ggX1_keep_X0_valueX : GoodIn wsX1_keep wsX0_valueX := goodIn_r _ [30, 21, 22, 23, 13, 24, 25, 26, 31, 32, 33, 34, 19, 43, 44, 45, 46, 47] (by decide +kernel) (by decide +kernel)
set_option maxRecDepth 20000 in
theorem gX1_keep_X0_valueX : GoodIn wsX1_keep (wsV RX1 47 RX0 yX0_valueX wsX0_valueX) := goodIn_app (goodIn_of _ (by decide +kernel)) ggX1_keep_X0_valueX
set_option maxRecDepth 20000 in
theorem ggX1_keep_X0_valueA : GoodIn wsX1_keep wsX0_valueA := goodIn_r _ [18, 19, 20, 43, 44, 45, 46, 47] (by decide +kernel) (by decide +kernel)
set_option maxRecDepth 20000 in
theorem gX1_keep_X0_valueA : GoodIn wsX1_keep (wsV RX1 56 RX0 yX0_valueA wsX0_valueA) := goodIn_app (goodIn_of _ (by decide +kernel)) ggX1_keep_X0_valueA
set_option maxRecDepth 20000 in
theorem ggX1_keep_X0_valueB : GoodIn wsX1_keep wsX0_valueB := goodIn_r _ [24, 25, 26, 43, 44, 45, 46, 47] (by decide +kernel) (by decide +kernel)
set_option maxRecDepth 20000 in
theorem gX1_keep_X0_valueB : GoodIn wsX1_keep (wsV RX1 60 RX0 yX0_valueB wsX0_valueB) := goodIn_app (goodIn_of _ (by decide +kernel)) ggX1_keep_X0_valueB
theorem dX1_keep_0 : decode cX1_keep 0 = .ok (.aload_n 0, 1) := by decide +kernel
theorem dX1_keep_1 : decode cX1_keep 1 = .ok (.getfield 9, 3) := by decide +kernel
theorem dX1_keep_4 : decode cX1_keep 4 = .ok (.aload_n 0, 1) := by decide +kernel
theorem dX1_keep_5 : decode cX1_keep 5 = .ok (.getfield 28, 3) := by decide +kernel
theorem dX1_keep_8 : decode cX1_keep 8 = .ok (.bipush 100, 2) := by decide +kernel
theorem dX1_keep_10 : decode cX1_keep 10 = .ok (.iload_n 1, 1) := by decide +kernel
theorem dX1_keep_11 : decode cX1_keep 11 = .ok (.imul, 1) := by decide +kernel
theorem dX1_keep_12 : decode cX1_keep 12 = .ok (.iload_n 2, 1) := by decide +kernel
theorem dX1_keep_13 : decode cX1_keep 13 = .ok (.iadd, 1) := by decide +kernel
theorem dX1_keep_14 : decode cX1_keep 14 = .ok (.iastore, 1) := by decide +kernel
theorem dX1_keep_15 : decode cX1_keep 15 = .ok (.aload_n 0, 1) := by decide +kernel
theorem dX1_keep_16 : decode cX1_keep 16 = .ok (.getfield 15, 3) := by decide +kernel
theorem dX1_keep_19 : decode cX1_keep 19 = .ok (.aload_n 0, 1) := by decide +kernel
theorem dX1_keep_20 : decode cX1_keep 20 = .ok (.getfield 28, 3) := by decide +kernel
theorem dX1_keep_23 : decode cX1_keep 23 = .ok (.aload_n 3, 1) := by decide +kernel
theorem dX1_keep_24 : decode cX1_keep 24 = .ok (.iload_n 1, 1) := by decide +kernel
theorem dX1_keep_25 : decode cX1_keep 25 = .ok (.iload_n 2, 1) := by decide +kernel
theorem dX1_keep_26 : decode cX1_keep 26 = .ok (.invokevirtual 35, 3) := by decide +kernel
theorem dX1_keep_29 : decode cX1_keep 29 = .ok (.lastore, 1) := by decide +kernel
theorem dX1_keep_30 : decode cX1_keep 30 = .ok (.aload_n 0, 1) := by decide +kernel
theorem dX1_keep_31 : decode cX1_keep 31 = .ok (.getfield 19, 3) := by decide +kernel
theorem dX1_keep_34 : decode cX1_keep 34 = .ok (.aload_n 0, 1) := by decide +kernel
theorem dX1_keep_35 : decode cX1_keep 35 = .ok (.getfield 28, 3) := by decide +kernel
theorem dX1_keep_38 : decode cX1_keep 38 = .ok (.aload_n 3, 1) := by decide +kernel
theorem dX1_keep_39 : decode cX1_keep 39 = .ok (.iload_n 2, 1) := by decide +kernel
theorem dX1_keep_40 : decode cX1_keep 40 = .ok (.iload_n 1, 1) := by decide +kernel
theorem dX1_keep_41 : decode cX1_keep 41 = .ok (.invokevirtual 47, 3) := by decide +kernel
theorem dX1_keep_44 : decode cX1_keep 44 = .ok (.invokestatic 50, 3) := by decide +kernel
theorem dX1_keep_47 : decode cX1_keep 47 = .ok (.lastore, 1) := by decide +kernel
theorem dX1_keep_48 : decode cX1_keep 48 = .ok (.aload_n 0, 1) := by decide +kernel
theorem dX1_keep_49 : decode cX1_keep 49 = .ok (.getfield 22, 3) := by decide +kernel
theorem dX1_keep_52 : decode cX1_keep 52 = .ok (.aload_n 0, 1) := by decide +kernel
theorem dX1_keep_53 : decode cX1_keep 53 = .ok (.getfield 28, 3) := by decide +kernel
theorem dX1_keep_56 : decode cX1_keep 56 = .ok (.aload_n 3, 1) := by decide +kernel
theorem dX1_keep_57 : decode cX1_keep 57 = .ok (.iload_n 1, 1) := by decide +kernel
theorem dX1_keep_58 : decode cX1_keep 58 = .ok (.invokevirtual 56, 3) := by decide +kernel
theorem dX1_keep_61 : decode cX1_keep 61 = .ok (.aload_n 3, 1) := by decide +kernel
theorem dX1_keep_62 : decode cX1_keep 62 = .ok (.iload_n 2, 1) := by decide +kernel
theorem dX1_keep_63 : decode cX1_keep 63 = .ok (.invokevirtual 60, 3) := by decide +kernel
theorem dX1_keep_66 : decode cX1_keep 66 = .ok (.lmul, 1) := by decide +kernel
theorem dX1_keep_67 : decode cX1_keep 67 = .ok (.aload_n 3, 1) := by decide +kernel
theorem dX1_keep_68 : decode cX1_keep 68 = .ok (.iload_n 2, 1) := by decide +kernel
theorem dX1_keep_69 : decode cX1_keep 69 = .ok (.invokevirtual 56, 3) := by decide +kernel
theorem dX1_keep_72 : decode cX1_keep 72 = .ok (.aload_n 3, 1) := by decide +kernel
theorem dX1_keep_73 : decode cX1_keep 73 = .ok (.iload_n 1, 1) := by decide +kernel
theorem dX1_keep_74 : decode cX1_keep 74 = .ok (.invokevirtual 60, 3) := by decide +kernel
theorem dX1_keep_77 : decode cX1_keep 77 = .ok (.lmul, 1) := by decide +kernel
theorem dX1_keep_78 : decode cX1_keep 78 = .ok (.ladd, 1) := by decide +kernel
theorem dX1_keep_79 : decode cX1_keep 79 = .ok (.lastore, 1) := by decide +kernel
theorem dX1_keep_80 : decode cX1_keep 80 = .ok (.aload_n 0, 1) := by decide +kernel
theorem dX1_keep_81 : decode cX1_keep 81 = .ok (.dup, 1) := by decide +kernel
theorem dX1_keep_82 : decode cX1_keep 82 = .ok (.getfield 28, 3) := by decide +kernel
theorem dX1_keep_85 : decode cX1_keep 85 = .ok (.iconst 1, 1) := by decide +kernel
theorem dX1_keep_86 : decode cX1_keep 86 = .ok (.iadd, 1) := by decide +kernel
theorem dX1_keep_87 : decode cX1_keep 87 = .ok (.putfield 28, 3) := by decide +kernel
theorem dX1_keep_90 : decode cX1_keep 90 = .ok (.return_, 1) := by decide +kernel
set_option maxRecDepth 20000 in
theorem ggX1_placeAmong_X1_compareSlots : GoodIn wsX1_placeAmong wsX1_compareSlots := goodIn_r _ [6, 7, 8, 9, 10, 11, 12, 13, 14, 15, 16, 17, 18, 19] (by decide +kernel) (by decide +kernel)
set_option maxRecDepth 20000 in
theorem gX1_placeAmong_X1_compareSlots : GoodIn wsX1_placeAmong (wsV RX1 63 RX1 yX1_compareSlots wsX1_compareSlots) := goodIn_app (goodIn_of _ (by decide +kernel)) ggX1_placeAmong_X1_compareSlots
theorem dX1_placeAmong_0 : decode cX1_placeAmong 0 = .ok (.iconst 0, 1) := by decide +kernel
theorem dX1_placeAmong_1 : decode cX1_placeAmong 1 = .ok (.istore_n 3, 1) := by decide +kernel
theorem dX1_placeAmong_2 : decode cX1_placeAmong 2 = .ok (.iload_n 1, 1) := by decide +kernel
theorem dX1_placeAmong_3 : decode cX1_placeAmong 3 = .ok (.istore 4, 2) := by decide +kernel
theorem dX1_placeAmong_5 : decode cX1_placeAmong 5 = .ok (.iload_n 3, 1) := by decide +kernel
theorem dX1_placeAmong_6 : decode cX1_placeAmong 6 = .ok (.iload 4, 2) := by decide +kernel
theorem dX1_placeAmong_8 : decode cX1_placeAmong 8 = .ok (.if_icmp .ge 42, 3) := by decide +kernel
theorem dX1_placeAmong_11 : decode cX1_placeAmong 11 = .ok (.iload_n 3, 1) := by decide +kernel
theorem dX1_placeAmong_12 : decode cX1_placeAmong 12 = .ok (.iload 4, 2) := by decide +kernel
theorem dX1_placeAmong_14 : decode cX1_placeAmong 14 = .ok (.iadd, 1) := by decide +kernel
theorem dX1_placeAmong_15 : decode cX1_placeAmong 15 = .ok (.iconst 2, 1) := by decide +kernel
theorem dX1_placeAmong_16 : decode cX1_placeAmong 16 = .ok (.idiv, 1) := by decide +kernel
theorem dX1_placeAmong_17 : decode cX1_placeAmong 17 = .ok (.istore 5, 2) := by decide +kernel
theorem dX1_placeAmong_19 : decode cX1_placeAmong 19 = .ok (.aload_n 0, 1) := by decide +kernel
theorem dX1_placeAmong_20 : decode cX1_placeAmong 20 = .ok (.iload_n 1, 1) := by decide +kernel
theorem dX1_placeAmong_21 : decode cX1_placeAmong 21 = .ok (.aload_n 0, 1) := by decide +kernel
theorem dX1_placeAmong_22 : decode cX1_placeAmong 22 = .ok (.getfield 25, 3) := by decide +kernel
theorem dX1_placeAmong_25 : decode cX1_placeAmong 25 = .ok (.iload 5, 2) := by decide +kernel
theorem dX1_placeAmong_27 : decode cX1_placeAmong 27 = .ok (.iaload, 1) := by decide +kernel
theorem dX1_placeAmong_28 : decode cX1_placeAmong 28 = .ok (.iload_n 2, 1) := by decide +kernel
theorem dX1_placeAmong_29 : decode cX1_placeAmong 29 = .ok (.invokevirtual 63, 3) := by decide +kernel
theorem dX1_placeAmong_32 : decode cX1_placeAmong 32 = .ok (.ifCond .ge 10, 3) := by decide +kernel
theorem dX1_placeAmong_35 : decode cX1_placeAmong 35 = .ok (.iload 5, 2) := by decide +kernel
theorem dX1_placeAmong_37 : decode cX1_placeAmong 37 = .ok (.istore 4, 2) := by decide +kernel
theorem dX1_placeAmong_39 : decode cX1_placeAmong 39 = .ok (.goto 8, 3) := by decide +kernel
theorem dX1_placeAmong_42 : decode cX1_placeAmong 42 = .ok (.iload 5, 2) := by decide +kernel
theorem dX1_placeAmong_44 : decode cX1_placeAmong 44 = .ok (.iconst 1, 1) := by decide +kernel
theorem dX1_placeAmong_45 : decode cX1_placeAmong 45 = .ok (.iadd, 1) := by decide +kernel
theorem dX1_placeAmong_46 : decode cX1_placeAmong 46 = .ok (.istore_n 3, 1) := by decide +kernel
theorem dX1_placeAmong_47 : decode cX1_placeAmong 47 = .ok (.goto (-42), 3) := by decide +kernel
theorem dX1_placeAmong_50 : decode cX1_placeAmong 50 = .ok (.iload_n 3, 1) := by decide +kernel
theorem dX1_placeAmong_51 : decode cX1_placeAmong 51 = .ok (.ireturn, 1) := by decide +kernel
set_option maxRecDepth 20000 in
theorem ggX1_compareSlots_J13_compare_74951 : GoodIn wsX1_compareSlots wsJ13_compare_74951 := goodIn_r _ [7] (by decide +kernel) (by decide +kernel)
set_option maxRecDepth 20000 in
theorem gX1_compareSlots_J13_compare_74951 : GoodIn wsX1_compareSlots (va_wsS RX1 67 yJ13_compare_74951 wsJ13_compare_74951) := goodIn_app (goodIn_of _ (by decide +kernel)) ggX1_compareSlots_J13_compare_74951
theorem dX1_compareSlots_0 : decode cX1_compareSlots 0 = .ok (.aload_n 0, 1) := by decide +kernel
theorem dX1_compareSlots_1 : decode cX1_compareSlots 1 = .ok (.getfield 19, 3) := by decide +kernel
theorem dX1_compareSlots_4 : decode cX1_compareSlots 4 = .ok (.iload_n 1, 1) := by decide +kernel
theorem dX1_compareSlots_5 : decode cX1_compareSlots 5 = .ok (.laload, 1) := by decide +kernel
theorem dX1_compareSlots_6 : decode cX1_compareSlots 6 = .ok (.aload_n 0, 1) := by decide +kernel
theorem dX1_compareSlots_7 : decode cX1_compareSlots 7 = .ok (.getfield 15, 3) := by decide +kernel
theorem dX1_compareSlots_10 : decode cX1_compareSlots 10 = .ok (.iload_n 2, 1) := by decide +kernel
theorem dX1_compareSlots_11 : decode cX1_compareSlots 11 = .ok (.laload, 1) := by decide +kernel
theorem dX1_compareSlots_12 : decode cX1_compareSlots 12 = .ok (.lmul, 1) := by decide +kernel
theorem dX1_compareSlots_13 : decode cX1_compareSlots 13 = .ok (.aload_n 0, 1) := by decide +kernel
theorem dX1_compareSlots_14 : decode cX1_compareSlots 14 = .ok (.getfield 19, 3) := by decide +kernel
theorem dX1_compareSlots_17 : decode cX1_compareSlots 17 = .ok (.iload_n 2, 1) := by decide +kernel
theorem dX1_compareSlots_18 : decode cX1_compareSlots 18 = .ok (.laload, 1) := by decide +kernel
theorem dX1_compareSlots_19 : decode cX1_compareSlots 19 = .ok (.aload_n 0, 1) := by decide +kernel
theorem dX1_compareSlots_20 : decode cX1_compareSlots 20 = .ok (.getfield 15, 3) := by decide +kernel
theorem dX1_compareSlots_23 : decode cX1_compareSlots 23 = .ok (.iload_n 1, 1) := by decide +kernel
theorem dX1_compareSlots_24 : decode cX1_compareSlots 24 = .ok (.laload, 1) := by decide +kernel
theorem dX1_compareSlots_25 : decode cX1_compareSlots 25 = .ok (.lmul, 1) := by decide +kernel
theorem dX1_compareSlots_26 : decode cX1_compareSlots 26 = .ok (.invokestatic 67, 3) := by decide +kernel
theorem dX1_compareSlots_29 : decode cX1_compareSlots 29 = .ok (.istore 4, 2) := by decide +kernel
theorem dX1_compareSlots_31 : decode cX1_compareSlots 31 = .ok (.aload_n 0, 1) := by decide +kernel
theorem dX1_compareSlots_32 : decode cX1_compareSlots 32 = .ok (.getfield 22, 3) := by decide +kernel
theorem dX1_compareSlots_35 : decode cX1_compareSlots 35 = .ok (.iload_n 1, 1) := by decide +kernel
theorem dX1_compareSlots_36 : decode cX1_compareSlots 36 = .ok (.laload, 1) := by decide +kernel
theorem dX1_compareSlots_37 : decode cX1_compareSlots 37 = .ok (.aload_n 0, 1) := by decide +kernel
theorem dX1_compareSlots_38 : decode cX1_compareSlots 38 = .ok (.getfield 15, 3) := by decide +kernel
theorem dX1_compareSlots_41 : decode cX1_compareSlots 41 = .ok (.iload_n 2, 1) := by decide +kernel
theorem dX1_compareSlots_42 : decode cX1_compareSlots 42 = .ok (.laload, 1) := by decide +kernel
theorem dX1_compareSlots_43 : decode cX1_compareSlots 43 = .ok (.lmul, 1) := by decide +kernel
theorem dX1_compareSlots_44 : decode cX1_compareSlots 44 = .ok (.aload_n 0, 1) := by decide +kernel
theorem dX1_compareSlots_45 : decode cX1_compareSlots 45 = .ok (.getfield 22, 3) := by decide +kernel
theorem dX1_compareSlots_48 : decode cX1_compareSlots 48 = .ok (.iload_n 2, 1) := by decide +kernel
theorem dX1_compareSlots_49 : decode cX1_compareSlots 49 = .ok (.laload, 1) := by decide +kernel
theorem dX1_compareSlots_50 : decode cX1_compareSlots 50 = .ok (.aload_n 0, 1) := by decide +kernel
theorem dX1_compareSlots_51 : decode cX1_compareSlots 51 = .ok (.getfield 15, 3) := by decide +kernel
theorem dX1_compareSlots_54 : decode cX1_compareSlots 54 = .ok (.iload_n 1, 1) := by decide +kernel
theorem dX1_compareSlots_55 : decode cX1_compareSlots 55 = .ok (.laload, 1) := by decide +kernel
theorem dX1_compareSlots_56 : decode cX1_compareSlots 56 = .ok (.lmul, 1) := by decide +kernel
theorem dX1_compareSlots_57 : decode cX1_compareSlots 57 = .ok (.invokestatic 67, 3) := by decide +kernel
theorem dX1_compareSlots_60 : decode cX1_compareSlots 60 = .ok (.istore 5, 2) := by decide +kernel
theorem dX1_compareSlots_62 : decode cX1_compareSlots 62 = .ok (.iload_n 3, 1) := by decide +kernel
theorem dX1_compareSlots_63 : decode cX1_compareSlots 63 = .ok (.ifCond .eq 16, 3) := by decide +kernel
theorem dX1_compareSlots_66 : decode cX1_compareSlots 66 = .ok (.iload 5, 2) := by decide +kernel
theorem dX1_compareSlots_68 : decode cX1_compareSlots 68 = .ok (.ifCond .eq 8, 3) := by decide +kernel
theorem dX1_compareSlots_71 : decode cX1_compareSlots 71 = .ok (.iload 5, 2) := by decide +kernel
theorem dX1_compareSlots_73 : decode cX1_compareSlots 73 = .ok (.goto 5, 3) := by decide +kernel
theorem dX1_compareSlots_76 : decode cX1_compareSlots 76 = .ok (.iload 4, 2) := by decide +kernel
theorem dX1_compareSlots_78 : decode cX1_compareSlots 78 = .ok (.ireturn, 1) := by decide +kernel
theorem dX1_compareSlots_79 : decode cX1_compareSlots 79 = .ok (.iload 4, 2) := by decide +kernel
theorem dX1_compareSlots_81 : decode cX1_compareSlots 81 = .ok (.ifCond .eq 8, 3) := by decide +kernel
theorem dX1_compareSlots_84 : decode cX1_compareSlots 84 = .ok (.iload 4, 2) := by decide +kernel
theorem dX1_compareSlots_86 : decode cX1_compareSlots 86 = .ok (.goto 5, 3) := by decide +kernel
theorem dX1_compareSlots_89 : decode cX1_compareSlots 89 = .ok (.iload 5, 2) := by decide +kernel
theorem dX1_compareSlots_91 : decode cX1_compareSlots 91 = .ok (.ireturn, 1) := by decide +kernel
theorem dX2_init_0 : decode cX2_init 0 = .ok (.aload_n 0, 1) := by decide +kernel
theorem dX2_init_1 : decode cX2_init 1 = .ok (.invokespecial 5, 3) := by decide +kernel
theorem dX2_init_4 : decode cX2_init 4 = .ok (.aload_n 0, 1) := by decide +kernel
theorem dX2_init_5 : decode cX2_init 5 = .ok (.bipush 28, 2) := by decide +kernel
theorem dX2_init_7 : decode cX2_init 7 = .ok (.newarray .int, 2) := by decide +kernel
theorem dX2_init_9 : decode cX2_init 9 = .ok (.putfield 11, 3) := by decide +kernel
theorem dX2_init_12 : decode cX2_init 12 = .ok (.return_, 1) := by decide +kernel
theorem dX2_add_0 : decode cX2_add 0 = .ok (.aload_n 0, 1) := by decide +kernel
theorem dX2_add_1 : decode cX2_add 1 = .ok (.getfield 15, 3) := by decide +kernel
theorem dX2_add_4 : decode cX2_add 4 = .ok (.bipush 28, 2) := by decide +kernel
theorem dX2_add_6 : decode cX2_add 6 = .ok (.if_icmp .ge 23, 3) := by decide +kernel
theorem dX2_add_9 : decode cX2_add 9 = .ok (.aload_n 0, 1) := by decide +kernel
theorem dX2_add_10 : decode cX2_add 10 = .ok (.getfield 11, 3) := by decide +kernel
theorem dX2_add_13 : decode cX2_add 13 = .ok (.aload_n 0, 1) := by decide +kernel
theorem dX2_add_14 : decode cX2_add 14 = .ok (.getfield 15, 3) := by decide +kernel
theorem dX2_add_17 : decode cX2_add 17 = .ok (.iload_n 1, 1) := by decide +kernel
theorem dX2_add_18 : decode cX2_add 18 = .ok (.iastore, 1) := by decide +kernel
theorem dX2_add_19 : decode cX2_add 19 = .ok (.aload_n 0, 1) := by decide +kernel
theorem dX2_add_20 : decode cX2_add 20 = .ok (.dup, 1) := by decide +kernel
theorem dX2_add_21 : decode cX2_add 21 = .ok (.getfield 15, 3) := by decide +kernel
theorem dX2_add_24 : decode cX2_add 24 = .ok (.iconst 1, 1) := by decide +kernel
theorem dX2_add_25 : decode cX2_add 25 = .ok (.iadd, 1) := by decide +kernel
theorem dX2_add_26 : decode cX2_add 26 = .ok (.putfield 15, 3) := by decide +kernel
theorem dX2_add_29 : decode cX2_add 29 = .ok (.return_, 1) := by decide +kernel
theorem dX2_empty_0 : decode cX2_empty 0 = .ok (.aload_n 0, 1) := by decide +kernel
theorem dX2_empty_1 : decode cX2_empty 1 = .ok (.iconst 0, 1) := by decide +kernel
theorem dX2_empty_2 : decode cX2_empty 2 = .ok (.putfield 15, 3) := by decide +kernel
theorem dX2_empty_5 : decode cX2_empty 5 = .ok (.return_, 1) := by decide +kernel
theorem dX2_codeAt_0 : decode cX2_codeAt 0 = .ok (.iload_n 1, 1) := by decide +kernel
theorem dX2_codeAt_1 : decode cX2_codeAt 1 = .ok (.ifCond .lt 20, 3) := by decide +kernel
theorem dX2_codeAt_4 : decode cX2_codeAt 4 = .ok (.iload_n 1, 1) := by decide +kernel
theorem dX2_codeAt_5 : decode cX2_codeAt 5 = .ok (.aload_n 0, 1) := by decide +kernel
theorem dX2_codeAt_6 : decode cX2_codeAt 6 = .ok (.getfield 15, 3) := by decide +kernel
theorem dX2_codeAt_9 : decode cX2_codeAt 9 = .ok (.if_icmp .ge 12, 3) := by decide +kernel
theorem dX2_codeAt_12 : decode cX2_codeAt 12 = .ok (.aload_n 0, 1) := by decide +kernel
theorem dX2_codeAt_13 : decode cX2_codeAt 13 = .ok (.getfield 11, 3) := by decide +kernel
theorem dX2_codeAt_16 : decode cX2_codeAt 16 = .ok (.iload_n 1, 1) := by decide +kernel
theorem dX2_codeAt_17 : decode cX2_codeAt 17 = .ok (.iaload, 1) := by decide +kernel
theorem dX2_codeAt_18 : decode cX2_codeAt 18 = .ok (.goto 4, 3) := by decide +kernel
theorem dX2_codeAt_21 : decode cX2_codeAt 21 = .ok (.iconst 0, 1) := by decide +kernel
theorem dX2_codeAt_22 : decode cX2_codeAt 22 = .ok (.ireturn, 1) := by decide +kernel
set_option maxRecDepth 20000 in
theorem ggX2_firstFault_X2_nameLength : GoodIn wsX2_firstFault wsX2_nameLength := goodIn_r _ [7, 1, 8, 9, 10, 11, 2, 12, 13, 6, 14, 15, 16, 17, 21, 22] (by decide +kernel) (by decide +kernel)
set_option maxRecDepth 20000 in
theorem gX2_firstFault_X2_nameLength : GoodIn wsX2_firstFault (wsV RX2 19 RX2 yX2_nameLength wsX2_nameLength) := goodIn_app (goodIn_of _ (by decide +kernel)) ggX2_firstFault_X2_nameLength
set_option maxRecDepth 20000 in
theorem ggX2_firstFault_X2_isAllowedBehindName : GoodIn wsX2_firstFault wsX2_isAllowedBehindName := goodIn_r _ [20, 15, 16, 6, 17] (by decide +kernel) (by decide +kernel)
set_option maxRecDepth 20000 in
theorem gX2_firstFault_X2_isAllowedBehindName : GoodIn wsX2_firstFault (va_wsS RX2 23 yX2_isAllowedBehindName wsX2_isAllowedBehindName) := goodIn_app (goodIn_of _ (by decide +kernel)) ggX2_firstFault_X2_isAllowedBehindName
theorem dX2_firstFault_0 : decode cX2_firstFault 0 = .ok (.aload_n 0, 1) := by decide +kernel
theorem dX2_firstFault_1 : decode cX2_firstFault 1 = .ok (.invokevirtual 19, 3) := by decide +kernel
theorem dX2_firstFault_4 : decode cX2_firstFault 4 = .ok (.istore_n 1, 1) := by decide +kernel
theorem dX2_firstFault_5 : decode cX2_firstFault 5 = .ok (.iload_n 1, 1) := by decide +kernel
theorem dX2_firstFault_6 : decode cX2_firstFault 6 = .ok (.ifCond .ne 5, 3) := by decide +kernel
theorem dX2_firstFault_9 : decode cX2_firstFault 9 = .ok (.iconst 0, 1) := by decide +kernel
theorem dX2_firstFault_10 : decode cX2_firstFault 10 = .ok (.ireturn, 1) := by decide +kernel
theorem dX2_firstFault_11 : decode cX2_firstFault 11 = .ok (.iload_n 1, 1) := by decide +kernel
theorem dX2_firstFault_12 : decode cX2_firstFault 12 = .ok (.istore_n 2, 1) := by decide +kernel
theorem dX2_firstFault_13 : decode cX2_firstFault 13 = .ok (.iload_n 2, 1) := by decide +kernel
theorem dX2_firstFault_14 : decode cX2_firstFault 14 = .ok (.aload_n 0, 1) := by decide +kernel
theorem dX2_firstFault_15 : decode cX2_firstFault 15 = .ok (.getfield 15, 3) := by decide +kernel
theorem dX2_firstFault_18 : decode cX2_firstFault 18 = .ok (.if_icmp .ge 26, 3) := by decide +kernel
theorem dX2_firstFault_21 : decode cX2_firstFault 21 = .ok (.iload_n 2, 1) := by decide +kernel
theorem dX2_firstFault_22 : decode cX2_firstFault 22 = .ok (.iload_n 1, 1) := by decide +kernel
theorem dX2_firstFault_23 : decode cX2_firstFault 23 = .ok (.isub, 1) := by decide +kernel
theorem dX2_firstFault_24 : decode cX2_firstFault 24 = .ok (.aload_n 0, 1) := by decide +kernel
theorem dX2_firstFault_25 : decode cX2_firstFault 25 = .ok (.getfield 11, 3) := by decide +kernel
theorem dX2_firstFault_28 : decode cX2_firstFault 28 = .ok (.iload_n 2, 1) := by decide +kernel
theorem dX2_firstFault_29 : decode cX2_firstFault 29 = .ok (.iaload, 1) := by decide +kernel
theorem dX2_firstFault_30 : decode cX2_firstFault 30 = .ok (.invokestatic 23, 3) := by decide +kernel
theorem dX2_firstFault_33 : decode cX2_firstFault 33 = .ok (.ifCond .ne 5, 3) := by decide +kernel
theorem dX2_firstFault_36 : decode cX2_firstFault 36 = .ok (.iload_n 2, 1) := by decide +kernel
theorem dX2_firstFault_37 : decode cX2_firstFault 37 = .ok (.ireturn, 1) := by decide +kernel
theorem dX2_firstFault_38 : decode cX2_firstFault 38 = .ok (.iinc 2 1, 3) := by decide +kernel
theorem dX2_firstFault_41 : decode cX2_firstFault 41 = .ok (.goto (-28), 3) := by decide +kernel
theorem dX2_firstFault_44 : decode cX2_firstFault 44 = .ok (.aload_n 0, 1) := by decide +kernel
theorem dX2_firstFault_45 : decode cX2_firstFault 45 = .ok (.getfield 15, 3) := by decide +kernel
theorem dX2_firstFault_48 : decode cX2_firstFault 48 = .ok (.ireturn, 1) := by decide +kernel
set_option maxRecDepth 20000 in
theorem ggX2_isComplete_X2_nameLength : GoodIn wsX2_isComplete wsX2_nameLength := goodIn_r _ [6, 1, 7, 8, 9, 10, 11, 12, 13, 5, 14, 15, 16, 17, 25, 26] (by decide +kernel) (by decide +kernel)
set_option maxRecDepth 20000 in
theorem gX2_isComplete_X2_nameLength : GoodIn wsX2_isComplete (wsV RX2 19 RX2 yX2_nameLength wsX2_nameLength) := goodIn_app (goodIn_of _ (by decide +kernel)) ggX2_isComplete_X2_nameLength
set_option maxRecDepth 20000 in
theorem ggX2_isComplete_X2_firstFault : GoodIn wsX2_isComplete wsX2_firstFault := goodIn_r _ [21, 1, 11, 2, 3, 4, 5, 6, 7, 8, 9, 10, 12, 13, 14, 15, 16, 17, 22, 23, 24, 25, 26] (by decide +kernel) (by decide +kernel)
set_option maxRecDepth 20000 in
theorem gX2_isComplete_X2_firstFault : GoodIn wsX2_isComplete (wsV RX2 27 RX2 yX2_firstFault wsX2_firstFault) := goodIn_app (goodIn_of _ (by decide +kernel)) ggX2_isComplete_X2_firstFault
theorem dX2_isComplete_0 : decode cX2_isComplete 0 = .ok (.aload_n 0, 1) := by decide +kernel
theorem dX2_isComplete_1 : decode cX2_isComplete 1 = .ok (.invokevirtual 19, 3) := by decide +kernel
theorem dX2_isComplete_4 : decode cX2_isComplete 4 = .ok (.istore_n 1, 1) := by decide +kernel
theorem dX2_isComplete_5 : decode cX2_isComplete 5 = .ok (.iload_n 1, 1) := by decide +kernel
theorem dX2_isComplete_6 : decode cX2_isComplete 6 = .ok (.ifCond .le 29, 3) := by decide +kernel
theorem dX2_isComplete_9 : decode cX2_isComplete 9 = .ok (.aload_n 0, 1) := by decide +kernel
theorem dX2_isComplete_10 : decode cX2_isComplete 10 = .ok (.getfield 15, 3) := by decide +kernel
theorem dX2_isComplete_13 : decode cX2_isComplete 13 = .ok (.iload_n 1, 1) := by decide +kernel
theorem dX2_isComplete_14 : decode cX2_isComplete 14 = .ok (.bipush 21, 2) := by decide +kernel
theorem dX2_isComplete_16 : decode cX2_isComplete 16 = .ok (.iadd, 1) := by decide +kernel
theorem dX2_isComplete_17 : decode cX2_isComplete 17 = .ok (.if_icmp .ne 18, 3) := by decide +kernel
theorem dX2_isComplete_20 : decode cX2_isComplete 20 = .ok (.aload_n 0, 1) := by decide +kernel
theorem dX2_isComplete_21 : decode cX2_isComplete 21 = .ok (.invokevirtual 27, 3) := by decide +kernel
theorem dX2_isComplete_24 : decode cX2_isComplete 24 = .ok (.aload_n 0, 1) := by decide +kernel
theorem dX2_isComplete_25 : decode cX2_isComplete 25 = .ok (.getfield 15, 3) := by decide +kernel
theorem dX2_isComplete_28 : decode cX2_isComplete 28 = .ok (.if_icmp .ne 7, 3) := by decide +kernel
theorem dX2_isComplete_31 : decode cX2_isComplete 31 = .ok (.iconst 1, 1) := by decide +kernel
theorem dX2_isComplete_32 : decode cX2_isComplete 32 = .ok (.goto 4, 3) := by decide +kernel
theorem dX2_isComplete_35 : decode cX2_isComplete 35 = .ok (.iconst 0, 1) := by decide +kernel
theorem dX2_isComplete_36 : decode cX2_isComplete 36 = .ok (.ireturn, 1) := by decide +kernel
set_option maxRecDepth 20000 in
theorem ggX2_number_X2_nameLength : GoodIn wsX2_number wsX2_nameLength := goodIn_r _ [5, 6, 7, 8, 9, 10, 11, 12, 13, 4, 14, 15, 16, 17, 22, 23] (by decide +kernel) (by decide +kernel)
set_option maxRecDepth 20000 in
theorem gX2_number_X2_nameLength : GoodIn wsX2_number (wsV RX2 19 RX2 yX2_nameLength wsX2_nameLength) := goodIn_app (goodIn_of _ (by decide +kernel)) ggX2_number_X2_nameLength
set_option maxRecDepth 20000 in
theorem ggX2_number_X2_codeAt : GoodIn wsX2_number wsX2_codeAt := goodIn_r _ [21, 6, 11, 22, 23] (by decide +kernel) (by decide +kernel)
set_option maxRecDepth 20000 in
theorem gX2_number_X2_codeAt : GoodIn wsX2_number (wsV RX2 30 RX2 yX2_codeAt wsX2_codeAt) := goodIn_app (goodIn_of _ (by decide +kernel)) ggX2_number_X2_codeAt
theorem dX2_number_0 : decode cX2_number 0 = .ok (.aload_n 0, 1) := by decide +kernel
theorem dX2_number_1 : decode cX2_number 1 = .ok (.invokevirtual 19, 3) := by decide +kernel
theorem dX2_number_4 : decode cX2_number 4 = .ok (.iload_n 1, 1) := by decide +kernel
theorem dX2_number_5 : decode cX2_number 5 = .ok (.bipush 7, 2) := by decide +kernel
theorem dX2_number_7 : decode cX2_number 7 = .ok (.imul, 1) := by decide +kernel
theorem dX2_number_8 : decode cX2_number 8 = .ok (.iadd, 1) := by decide +kernel
theorem dX2_number_9 : decode cX2_number 9 = .ok (.iconst 1, 1) := by decide +kernel
theorem dX2_number_10 : decode cX2_number 10 = .ok (.iadd, 1) := by decide +kernel
theorem dX2_number_11 : decode cX2_number 11 = .ok (.istore_n 2, 1) := by decide +kernel
theorem dX2_number_12 : decode cX2_number 12 = .ok (.iconst 0, 1) := by decide +kernel
theorem dX2_number_13 : decode cX2_number 13 = .ok (.istore_n 3, 1) := by decide +kernel
theorem dX2_number_14 : decode cX2_number 14 = .ok (.iload_n 2, 1) := by decide +kernel
theorem dX2_number_15 : decode cX2_number 15 = .ok (.istore 4, 2) := by decide +kernel
theorem dX2_number_17 : decode cX2_number 17 = .ok (.iload 4, 2) := by decide +kernel
theorem dX2_number_19 : decode cX2_number 19 = .ok (.iload_n 2, 1) := by decide +kernel
theorem dX2_number_20 : decode cX2_number 20 = .ok (.bipush 6, 2) := by decide +kernel
theorem dX2_number_22 : decode cX2_number 22 = .ok (.iadd, 1) := by decide +kernel
theorem dX2_number_23 : decode cX2_number 23 = .ok (.if_icmp .ge 24, 3) := by decide +kernel
theorem dX2_number_26 : decode cX2_number 26 = .ok (.bipush 10, 2) := by decide +kernel
theorem dX2_number_28 : decode cX2_number 28 = .ok (.iload_n 3, 1) := by decide +kernel
theorem dX2_number_29 : decode cX2_number 29 = .ok (.imul, 1) := by decide +kernel
theorem dX2_number_30 : decode cX2_number 30 = .ok (.aload_n 0, 1) := by decide +kernel
theorem dX2_number_31 : decode cX2_number 31 = .ok (.iload 4, 2) := by decide +kernel
theorem dX2_number_33 : decode cX2_number 33 = .ok (.invokevirtual 30, 3) := by decide +kernel
theorem dX2_number_36 : decode cX2_number 36 = .ok (.iadd, 1) := by decide +kernel
theorem dX2_number_37 : decode cX2_number 37 = .ok (.bipush 48, 2) := by decide +kernel
theorem dX2_number_39 : decode cX2_number 39 = .ok (.isub, 1) := by decide +kernel
theorem dX2_number_40 : decode cX2_number 40 = .ok (.istore_n 3, 1) := by decide +kernel
theorem dX2_number_41 : decode cX2_number 41 = .ok (.iinc 4 1, 3) := by decide +kernel
theorem dX2_number_44 : decode cX2_number 44 = .ok (.goto (-27), 3) := by decide +kernel
theorem dX2_number_47 : decode cX2_number 47 = .ok (.iload_n 3, 1) := by decide +kernel
theorem dX2_number_48 : decode cX2_number 48 = .ok (.ireturn, 1) := by decide +kernel
set_option maxRecDepth 20000 in
theorem ggX2_nameKey_X2_nameLength : GoodIn wsX2_nameKey wsX2_nameLength := goodIn_r _ [7, 8, 9, 10, 11, 12, 2, 13, 14, 6, 15, 16, 17, 18, 19, 20] (by decide +kernel) (by decide +kernel)
set_option maxRecDepth 20000 in
theorem gX2_nameKey_X2_nameLength : GoodIn wsX2_nameKey (wsV RX2 19 RX2 yX2_nameLength wsX2_nameLength) := goodIn_app (goodIn_of _ (by decide +kernel)) ggX2_nameKey_X2_nameLength
theorem dX2_nameKey_0 : decode cX2_nameKey 0 = .ok (.aload_n 0, 1) := by decide +kernel
theorem dX2_nameKey_1 : decode cX2_nameKey 1 = .ok (.invokevirtual 19, 3) := by decide +kernel
theorem dX2_nameKey_4 : decode cX2_nameKey 4 = .ok (.istore_n 1, 1) := by decide +kernel
theorem dX2_nameKey_5 : decode cX2_nameKey 5 = .ok (.lconst 0, 1) := by decide +kernel
theorem dX2_nameKey_6 : decode cX2_nameKey 6 = .ok (.lstore_n 2, 1) := by decide +kernel
theorem dX2_nameKey_7 : decode cX2_nameKey 7 = .ok (.iconst 0, 1) := by decide +kernel
theorem dX2_nameKey_8 : decode cX2_nameKey 8 = .ok (.istore 4, 2) := by decide +kernel
theorem dX2_nameKey_10 : decode cX2_nameKey 10 = .ok (.iload 4, 2) := by decide +kernel
theorem dX2_nameKey_12 : decode cX2_nameKey 12 = .ok (.bipush 6, 2) := by decide +kernel
theorem dX2_nameKey_14 : decode cX2_nameKey 14 = .ok (.if_icmp .ge 34, 3) := by decide +kernel
theorem dX2_nameKey_17 : decode cX2_nameKey 17 = .ok (.ldc2_w 34, 3) := by decide +kernel
theorem dX2_nameKey_20 : decode cX2_nameKey 20 = .ok (.lload_n 2, 1) := by decide +kernel
theorem dX2_nameKey_21 : decode cX2_nameKey 21 = .ok (.lmul, 1) := by decide +kernel
theorem dX2_nameKey_22 : decode cX2_nameKey 22 = .ok (.iload 4, 2) := by decide +kernel
theorem dX2_nameKey_24 : decode cX2_nameKey 24 = .ok (.iload_n 1, 1) := by decide +kernel
theorem dX2_nameKey_25 : decode cX2_nameKey 25 = .ok (.if_icmp .ge 13, 3) := by decide +kernel
theorem dX2_nameKey_28 : decode cX2_nameKey 28 = .ok (.aload_n 0, 1) := by decide +kernel
theorem dX2_nameKey_29 : decode cX2_nameKey 29 = .ok (.getfield 11, 3) := by decide +kernel
theorem dX2_nameKey_32 : decode cX2_nameKey 32 = .ok (.iload 4, 2) := by decide +kernel
