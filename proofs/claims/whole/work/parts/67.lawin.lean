set_option maxRecDepth 20000 in
theorem lwi_r1 : GoodIn lw_tbl wsL_law_r1 := goodIn_r _ [68, 69, 56, 724, 725, 64, 70, 71, 72, 73, 74, 75, 76, 77, 57, 288, 92, 93, 58, 289, 120, 121, 59, 290] (by decide +kernel) (by decide +kernel)
set_option maxRecDepth 20000 in
theorem lwi_r2 : GoodIn lw_tbl wsL_law_r2 := goodIn_r _ [291, 155, 156, 60, 292, 199, 200, 61, 293, 294, 91, 295, 219, 220, 62, 296, 297, 298, 299, 300, 78, 79, 80, 81] (by decide +kernel) (by decide +kernel)
set_option maxRecDepth 20000 in
theorem lwi_r3 : GoodIn lw_tbl wsL_law_r3 := goodIn_r _ [85, 82, 94, 95, 96, 97, 98, 122, 123, 124, 125, 143, 126, 127, 128, 129, 130, 135, 137, 140, 157, 158, 159, 160] (by decide +kernel) (by decide +kernel)
set_option maxRecDepth 20000 in
theorem lwi_r4 : GoodIn lw_tbl wsL_law_r4 := goodIn_r _ [177, 180, 201, 202, 203, 204, 205, 211, 208, 210, 207, 221, 222, 223, 224, 237, 231, 233, 235, 240, 241, 242, 243, 244] (by decide +kernel) (by decide +kernel)
set_option maxRecDepth 20000 in
theorem lwi_r5 : GoodIn lw_tbl wsL_law_r5 := goodIn_r _ [274, 275, 276, 277, 161, 134, 164, 138, 167, 170, 172, 175, 278, 279, 280, 281, 282, 283, 63, 284, 285, 286, 287, 726] (by decide +kernel) (by decide +kernel)
set_option maxRecDepth 20000 in
theorem lwi_r6 : GoodIn lw_tbl wsL_law_r6 := goodIn_r _ [727, 728, 729, 732, 739, 740, 741, 742, 743, 744, 746, 747, 748, 815, 749, 750, 752, 753, 755, 756, 757, 328, 329, 330] (by decide +kernel) (by decide +kernel)
set_option maxRecDepth 20000 in
theorem lwi_r7 : GoodIn lw_tbl wsL_law_r7 := goodIn_r _ [331, 83, 332, 333, 334, 335, 336, 816, 817, 818, 819, 730, 733, 820, 821, 822, 337, 338, 339, 340, 823, 824, 825, 826] (by decide +kernel) (by decide +kernel)
set_option maxRecDepth 20000 in
theorem lwi_r8 : GoodIn lw_tbl wsL_law_r8 := goodIn_r _ [341, 342, 343, 344, 142, 345, 346, 347, 348, 99, 103, 104, 101, 100, 141, 349, 350, 352, 0, 353, 84, 354, 355, 356] (by decide +kernel) (by decide +kernel)
set_option maxRecDepth 20000 in
theorem lwi_r9 : GoodIn lw_tbl wsL_law_r9 := goodIn_r _ [357, 358, 359, 360, 361, 363, 1, 364, 102, 365, 366, 65, 367, 368, 369, 370, 371, 373, 2, 374, 131, 375, 378, 377] (by decide +kernel) (by decide +kernel)
set_option maxRecDepth 20000 in
theorem lwi_r10 : GoodIn lw_tbl wsL_law_r10 := goodIn_r _ [380, 382, 3, 383, 384, 385, 386, 387, 388, 389, 391, 4, 392, 393, 395, 5, 396, 136, 397, 399, 6, 400, 139, 401] (by decide +kernel) (by decide +kernel)
set_option maxRecDepth 20000 in
theorem lwi_r11 : GoodIn lw_tbl wsL_law_r11 := goodIn_r _ [402, 403, 404, 405, 406, 407, 408, 409, 410, 411, 412, 827, 828, 829, 830, 738, 734, 745, 735, 737, 831, 833, 36, 834] (by decide +kernel) (by decide +kernel)
set_option maxRecDepth 20000 in
theorem lwi_r12 : GoodIn lw_tbl wsL_law_r12 := goodIn_r _ [736, 835, 837, 37, 838, 839, 841, 38, 842, 843, 845, 39, 846, 847, 849, 40, 850, 851, 853, 41, 854, 855, 857, 42] (by decide +kernel) (by decide +kernel)
set_option maxRecDepth 20000 in
theorem lwi_r13 : GoodIn lw_tbl wsL_law_r13 := goodIn_r _ [858, 754, 751, 413, 414, 415, 416, 417, 419, 7, 420, 133, 421, 422, 423, 424, 425, 426, 427, 428, 429, 430, 859, 860] (by decide +kernel) (by decide +kernel)
set_option maxRecDepth 20000 in
theorem lwi_r14 : GoodIn lw_tbl wsL_law_r14 := goodIn_r _ [861, 862, 863, 865, 43, 866, 431, 432, 433, 434, 435, 437, 8, 438, 439, 440, 441, 442, 443, 444, 445, 66, 446, 867] (by decide +kernel) (by decide +kernel)
set_option maxRecDepth 20000 in
theorem lwi_r15 : GoodIn lw_tbl wsL_law_r15 := goodIn_r _ [868, 869, 870, 871, 873, 44, 874, 447, 448, 449, 450, 163, 166, 168, 171, 173, 209, 451, 453, 9, 454, 455, 457, 10] (by decide +kernel) (by decide +kernel)
set_option maxRecDepth 20000 in
theorem lwi_r16 : GoodIn lw_tbl wsL_law_r16 := goodIn_r _ [458, 875, 876, 877, 878, 879, 881, 45, 882, 883, 885, 46, 886, 459, 460, 461, 462, 181, 463, 465, 11, 466, 467, 887] (by decide +kernel) (by decide +kernel)
set_option maxRecDepth 20000 in
theorem lwi_r17 : GoodIn lw_tbl wsL_law_r17 := goodIn_r _ [888, 889, 890, 468, 469, 470, 471, 472, 473, 474, 475, 485, 476, 478, 12, 479, 480, 481, 482, 483, 484, 486, 488, 13] (by decide +kernel) (by decide +kernel)
set_option maxRecDepth 20000 in
theorem lwi_r18 : GoodIn lw_tbl wsL_law_r18 := goodIn_r _ [489, 891, 892, 893, 894, 895, 897, 47, 898, 490, 491, 492, 493, 899, 900, 901, 902, 494, 495, 496, 497, 498, 499, 500] (by decide +kernel) (by decide +kernel)
set_option maxRecDepth 20000 in
theorem lwi_r19 : GoodIn lw_tbl wsL_law_r19 := goodIn_r _ [501, 502, 503, 504, 903, 904, 905, 906, 907, 908, 909, 910, 505, 506, 507, 508, 509, 911, 912, 913, 914, 915, 510, 511] (by decide +kernel) (by decide +kernel)
set_option maxRecDepth 20000 in
theorem lwi_r20 : GoodIn lw_tbl wsL_law_r20 := goodIn_r _ [512, 513, 179, 916, 917, 918, 919, 514, 515, 516, 517, 176, 518, 519, 67, 520, 521, 522, 523, 920, 921, 922, 923, 924] (by decide +kernel) (by decide +kernel)
set_option maxRecDepth 20000 in
theorem lwi_r21 : GoodIn lw_tbl wsL_law_r21 := goodIn_r _ [925, 926, 524, 525, 526, 527, 528, 529, 530, 531, 927, 928, 929, 930, 532, 533, 534, 535, 230, 236, 536, 538, 14, 539] (by decide +kernel) (by decide +kernel)
set_option maxRecDepth 20000 in
theorem lwi_r22 : GoodIn lw_tbl wsL_law_r22 := goodIn_r _ [540, 541, 542, 543, 162, 238, 165, 225, 169, 239, 174, 227, 178, 544, 545, 546, 547, 548, 549, 551, 15, 552, 132, 553] (by decide +kernel) (by decide +kernel)
set_option maxRecDepth 20000 in
theorem lwi_r23 : GoodIn lw_tbl wsL_law_r23 := goodIn_r _ [554, 555, 556, 557, 559, 16, 560, 585, 561, 563, 17, 564, 565, 567, 18, 568, 569, 571, 19, 572, 573, 575, 20, 576] (by decide +kernel) (by decide +kernel)
set_option maxRecDepth 20000 in
theorem lwi_r24 : GoodIn lw_tbl wsL_law_r24 := goodIn_r _ [577, 579, 21, 580, 581, 583, 22, 584, 586, 588, 23, 589, 229, 931, 932, 933, 934, 935, 937, 48, 938, 939, 941, 49] (by decide +kernel) (by decide +kernel)
set_option maxRecDepth 20000 in
theorem lwi_r25 : GoodIn lw_tbl wsL_law_r25 := goodIn_r _ [942, 943, 945, 50, 946, 590, 591, 592, 593, 947, 948, 949, 950, 594, 595, 596, 597, 598, 600, 24, 601, 602, 604, 25] (by decide +kernel) (by decide +kernel)
set_option maxRecDepth 20000 in
theorem lwi_r26 : GoodIn lw_tbl wsL_law_r26 := goodIn_r _ [605, 228, 951, 952, 953, 954, 955, 957, 51, 958, 959, 961, 52, 962, 606, 607, 608, 609, 234, 963, 964, 965, 966, 967] (by decide +kernel) (by decide +kernel)
set_option maxRecDepth 20000 in
theorem lwi_r27 : GoodIn lw_tbl wsL_law_r27 := goodIn_r _ [969, 53, 970, 610, 611, 612, 613, 614, 616, 26, 617, 232, 971, 972, 973, 974, 618, 619, 620, 621, 975, 976, 977, 978] (by decide +kernel) (by decide +kernel)
set_option maxRecDepth 20000 in
theorem lwi_r28 : GoodIn lw_tbl wsL_law_r28 := goodIn_r _ [622, 623, 624, 625, 626, 627, 628, 629, 630, 631, 979, 980, 981, 982, 983, 984, 985, 632, 633, 634, 635, 636, 638, 27] (by decide +kernel) (by decide +kernel)
set_option maxRecDepth 20000 in
theorem lwi_r29 : GoodIn lw_tbl wsL_law_r29 := goodIn_r _ [639, 226, 986, 987, 988, 989, 640, 641, 642, 643, 644, 990, 991, 992, 993, 645, 646, 647, 648, 994, 995, 996, 997, 649] (by decide +kernel) (by decide +kernel)
set_option maxRecDepth 20000 in
theorem lwi_r30 : GoodIn lw_tbl wsL_law_r30 := goodIn_r _ [650, 651, 652, 998, 999, 1000, 1001, 653, 654, 655, 656, 657, 659, 28, 660, 661, 662, 663, 664, 1002, 1003, 1004, 1005, 1006] (by decide +kernel) (by decide +kernel)
set_option maxRecDepth 20000 in
theorem lwi_r31 : GoodIn lw_tbl wsL_law_r31 := goodIn_r _ [1008, 54, 1009, 665, 666, 667, 668, 1010, 1011, 1012, 1013, 669, 670, 671, 672, 673, 674, 676, 29, 677, 678, 680, 30, 681] (by decide +kernel) (by decide +kernel)
set_option maxRecDepth 20000 in
theorem lwi_r32 : GoodIn lw_tbl wsL_law_r32 := goodIn_r _ [682, 683, 685, 31, 686, 687, 688, 690, 32, 691, 692, 693, 695, 33, 696, 697, 698, 700, 34, 701, 702, 1014, 1015, 1016] (by decide +kernel) (by decide +kernel)
set_option maxRecDepth 20000 in
theorem lwi_r33 : GoodIn lw_tbl wsL_law_r33 := goodIn_r _ [1017, 1018, 731, 1019, 1020, 1021, 1022, 1023, 703, 704, 705, 706, 707, 709, 35, 710, 711, 1024, 1025, 1026, 1027, 712, 713, 714] (by decide +kernel) (by decide +kernel)
set_option maxRecDepth 20000 in
theorem lwi_r34 : GoodIn lw_tbl wsL_law_r34 := goodIn_r _ [715, 1028, 1029, 1030, 1031, 716, 717, 718, 719, 1032, 1033, 1034, 1035, 720, 721, 722, 723, 1036, 1037, 1038, 1039] (by decide +kernel) (by decide +kernel)
set_option maxRecDepth 20000 in
theorem lwg_wsX00 : GoodIn lw_tbl wsX00 := goodIn_r _ [182, 184, 186, 188, 190, 192, 194, 196] (by decide +kernel) (by decide +kernel)
set_option maxRecDepth 20000 in
theorem lwg_wsX10 : GoodIn lw_tbl wsX10 := goodIn_r _ [212, 214, 216] (by decide +kernel) (by decide +kernel)
set_option maxRecDepth 20000 in
theorem lwg_wsX20 : GoodIn lw_tbl wsX20 := goodIn_r _ [105, 107, 109, 111, 113, 115, 117] (by decide +kernel) (by decide +kernel)
set_option maxRecDepth 20000 in
theorem lwg_wsX30 : GoodIn lw_tbl wsX30 := goodIn_r _ [144, 146, 148, 150, 152] (by decide +kernel) (by decide +kernel)
set_option maxRecDepth 20000 in
theorem lwg_wsX40 : GoodIn lw_tbl wsX40 := goodIn_r _ [245, 247, 249, 251, 253, 255, 257, 259, 261, 263, 265, 267, 269, 271] (by decide +kernel) (by decide +kernel)
set_option maxRecDepth 20000 in
theorem lwg_wsX50 : GoodIn lw_tbl wsX50 := goodIn_r _ [] (by decide +kernel) (by decide +kernel)
set_option maxRecDepth 20000 in
theorem lwg_wsX60 : GoodIn lw_tbl wsX60 := goodIn_r _ [] (by decide +kernel) (by decide +kernel)
set_option maxRecDepth 20000 in
theorem lwg_wsX70 : GoodIn lw_tbl wsX70 := goodIn_r _ [86, 88] (by decide +kernel) (by decide +kernel)
set_option maxRecDepth 20000 in
theorem lwg_wsX80 : GoodIn lw_tbl wsX80 := goodIn_r _ [301, 303, 305, 307, 309, 311, 313, 315, 317, 319, 321, 323, 325] (by decide +kernel) (by decide +kernel)
set_option maxRecDepth 20000 in
theorem lwg_wsX90 : GoodIn lw_tbl wsX90 := goodIn_r _ [758, 760, 762, 764, 766, 768, 770, 772, 774, 776, 778, 780, 782, 784, 786, 788, 790, 792, 794, 796, 798, 800, 802, 804, 806, 808, 810, 812] (by decide +kernel) (by decide +kernel)
set_option maxRecDepth 20000 in
theorem lwg_wsJ60 : GoodIn lw_tbl wsJ60 := goodIn_r _ [] (by decide +kernel) (by decide +kernel)
set_option maxRecDepth 20000 in
theorem lwg_wsJ90 : GoodIn lw_tbl wsJ90 := goodIn_r _ [] (by decide +kernel) (by decide +kernel)
theorem wsL_law_gd : GoodIn lw_tbl wsL_law := (goodIn_app (goodIn_app (goodIn_app (goodIn_app (goodIn_app (goodIn_app (goodIn_app (goodIn_app (goodIn_app (goodIn_app lwi_r1 (goodIn_app lwi_r2 (goodIn_app lwi_r3 (goodIn_app lwi_r4 (goodIn_app lwi_r5 (goodIn_app lwi_r6 (goodIn_app lwi_r7 (goodIn_app lwi_r8 (goodIn_app lwi_r9 (goodIn_app lwi_r10 (goodIn_app lwi_r11 (goodIn_app lwi_r12 (goodIn_app lwi_r13 (goodIn_app lwi_r14 (goodIn_app lwi_r15 (goodIn_app lwi_r16 (goodIn_app lwi_r17 (goodIn_app lwi_r18 (goodIn_app lwi_r19 (goodIn_app lwi_r20 (goodIn_app lwi_r21 (goodIn_app lwi_r22 (goodIn_app lwi_r23 (goodIn_app lwi_r24 (goodIn_app lwi_r25 (goodIn_app lwi_r26 (goodIn_app lwi_r27 (goodIn_app lwi_r28 (goodIn_app lwi_r29 (goodIn_app lwi_r30 (goodIn_app lwi_r31 (goodIn_app lwi_r32 (goodIn_app lwi_r33 lwi_r34))))))))))))))))))))))))))))))))) lwg_wsX80) lwg_wsX90) lwg_wsX70) lwg_wsX20) lwg_wsX30) lwg_wsX00) lwg_wsX10) lwg_wsX40) (show GoodIn lw_tbl ([] : List Cond) from fun _ h => absurd h List.not_mem_nil))
theorem wsL_law_in : ∀ w ∈ wsL_law, w ∈ lw_tbl := fun w h => (wsL_law_gd w h).1
theorem inlX0 : ∀ w ∈ wsX00, w ∈ wsL_law := fun _ h => List.mem_append_left _ (List.mem_append_left _ (List.mem_append_left _ (List.mem_append_right _ h)))
theorem inX0 : ∀ w ∈ wsX00, w ∈ lw_tbl := fun w h => (lwg_wsX00 w h).1
theorem inlX1 : ∀ w ∈ wsX10, w ∈ wsL_law := fun _ h => List.mem_append_left _ (List.mem_append_left _ (List.mem_append_right _ h))
theorem inX1 : ∀ w ∈ wsX10, w ∈ lw_tbl := fun w h => (lwg_wsX10 w h).1
theorem inlX2 : ∀ w ∈ wsX20, w ∈ wsL_law := fun _ h => List.mem_append_left _ (List.mem_append_left _ (List.mem_append_left _ (List.mem_append_left _ (List.mem_append_left _ (List.mem_append_right _ h)))))
theorem inX2 : ∀ w ∈ wsX20, w ∈ lw_tbl := fun w h => (lwg_wsX20 w h).1
theorem inlX3 : ∀ w ∈ wsX30, w ∈ wsL_law := fun _ h => List.mem_append_left _ (List.mem_append_left _ (List.mem_append_left _ (List.mem_append_left _ (List.mem_append_right _ h))))
theorem inX3 : ∀ w ∈ wsX30, w ∈ lw_tbl := fun w h => (lwg_wsX30 w h).1
theorem inlX4 : ∀ w ∈ wsX40, w ∈ wsL_law := fun _ h => List.mem_append_left _ (List.mem_append_right _ h)
theorem inX4 : ∀ w ∈ wsX40, w ∈ lw_tbl := fun w h => (lwg_wsX40 w h).1
theorem inX5 : ∀ w ∈ wsX50, w ∈ lw_tbl := fun w h => (lwg_wsX50 w h).1
theorem inX6 : ∀ w ∈ wsX60, w ∈ lw_tbl := fun w h => (lwg_wsX60 w h).1
theorem inlX7 : ∀ w ∈ wsX70, w ∈ wsL_law := fun _ h => List.mem_append_left _ (List.mem_append_left _ (List.mem_append_left _ (List.mem_append_left _ (List.mem_append_left _ (List.mem_append_left _ (List.mem_append_right _ h))))))
theorem inX7 : ∀ w ∈ wsX70, w ∈ lw_tbl := fun w h => (lwg_wsX70 w h).1
theorem inlX8 : ∀ w ∈ wsX80, w ∈ wsL_law := fun _ h => List.mem_append_left _ (List.mem_append_left _ (List.mem_append_left _ (List.mem_append_left _ (List.mem_append_left _ (List.mem_append_left _ (List.mem_append_left _ (List.mem_append_left _ (List.mem_append_right _ h))))))))
theorem inX8 : ∀ w ∈ wsX80, w ∈ lw_tbl := fun w h => (lwg_wsX80 w h).1
theorem inlX9 : ∀ w ∈ wsX90, w ∈ wsL_law := fun _ h => List.mem_append_left _ (List.mem_append_left _ (List.mem_append_left _ (List.mem_append_left _ (List.mem_append_left _ (List.mem_append_left _ (List.mem_append_left _ (List.mem_append_right _ h)))))))
theorem inX9 : ∀ w ∈ wsX90, w ∈ lw_tbl := fun w h => (lwg_wsX90 w h).1
theorem inJ6 : ∀ w ∈ wsJ60, w ∈ lw_tbl := fun w h => (lwg_wsJ60 w h).1
theorem inJ9 : ∀ w ∈ wsJ90, w ∈ lw_tbl := fun w h => (lwg_wsJ90 w h).1
