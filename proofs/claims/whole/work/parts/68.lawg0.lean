set_option maxRecDepth 20000 in
theorem ggL_law_X8_init : GoodIn wsL_law wsX8_init := goodIn_r _ [8, 9, 10, 11, 12, 13, 14, 15, 16, 17, 18, 19, 20, 21, 22, 23, 24, 25, 26, 27, 28, 29, 30, 31, 32, 33, 34, 35, 36, 37, 38, 39, 40, 41, 42, 43, 44, 45, 46, 47, 48, 49, 50, 51, 52, 53, 54, 55, 56, 57, 58, 59, 60, 61, 62, 63, 64, 65, 66, 67, 68, 69, 70, 71, 72, 73, 74, 75, 76, 77, 78, 79, 80, 81, 82, 83, 84, 85, 86, 87, 88, 89, 90, 91, 92, 93, 94, 95, 96, 97, 98, 99, 100, 101, 102, 103, 104, 105, 106, 107, 108, 109, 110, 111, 112, 113, 114, 115, 116, 117, 118, 854, 855, 813, 814, 815, 816, 817, 818, 819, 820, 821, 822, 823, 824, 825, 856, 857, 858, 859, 860, 861, 862, 863, 864, 865, 866, 867, 868, 869, 870, 871, 872, 873, 874, 875, 876, 877, 878, 879, 880, 881, 882, 883, 884, 885, 886, 887, 888, 889, 890, 891, 892] (by decide +kernel) (by decide +kernel)
set_option maxRecDepth 20000 in
theorem gL_law_X8_init : GoodIn wsL_law (wsX8_init) := ggL_law_X8_init
set_option maxRecDepth 20000 in
theorem ggL_law_X9_init : GoodIn wsL_law wsX9_init := goodIn_r _ [121, 122, 10, 11, 34, 123, 124, 125, 126, 127, 128, 129, 130, 131, 132, 133, 134, 135, 136, 137, 138, 139, 140, 826, 827, 828, 829, 830, 831, 832, 833, 834, 835, 836, 837, 838, 839, 840, 841, 842, 843, 844, 845, 846, 847, 848, 849, 850, 851, 852, 853] (by decide +kernel) (by decide +kernel)
set_option maxRecDepth 20000 in
theorem gL_law_X9_init : GoodIn wsL_law (wsX9_init) := ggL_law_X9_init
set_option maxRecDepth 20000 in
theorem ggL_law_X8_type : GoodIn wsL_law wsX8_type := goodIn_r _ [144, 15, 145, 146, 147, 148, 14, 149, 48, 49, 150, 117, 114, 118, 813, 814, 815, 816, 817, 818, 819, 820, 821, 822, 823, 824, 825, 854, 855] (by decide +kernel) (by decide +kernel)
set_option maxRecDepth 20000 in
theorem gL_law_X8_type : GoodIn wsL_law (wsV RL 13 RX8 yX8_type wsX8_type) := goodIn_app (goodIn_r _ [141, 142, 143, 2] (by decide +kernel) (by decide +kernel)) ggL_law_X8_type
set_option maxRecDepth 20000 in
theorem ggL_law_X9_type : GoodIn wsL_law wsX9_type := goodIn_r _ [154, 155, 156, 123, 157, 158, 5, 159, 826, 827, 828, 829, 830, 831, 832, 833, 834, 835, 836, 837, 838, 839, 840, 841, 842, 843, 844, 845, 846, 847, 848, 849, 850, 851, 852, 853] (by decide +kernel) (by decide +kernel)
set_option maxRecDepth 20000 in
theorem gL_law_X9_type : GoodIn wsL_law (wsV RL 17 RX9 yX9_type wsX9_type) := goodIn_app (goodIn_r _ [151, 152, 153, 5] (by decide +kernel) (by decide +kernel)) ggL_law_X9_type
set_option maxRecDepth 20000 in
theorem ggL_law_X8_clear : GoodIn wsL_law wsX8_clear := goodIn_r _ [163, 15, 145, 813, 814, 815, 816, 817, 818, 819, 820, 821, 822, 823, 824, 825, 854, 855] (by decide +kernel) (by decide +kernel)
set_option maxRecDepth 20000 in
theorem gL_law_X8_clear : GoodIn wsL_law (wsV RL 18 RX8 yX8_clear wsX8_clear) := goodIn_app (goodIn_r _ [160, 161, 162, 2] (by decide +kernel) (by decide +kernel)) ggL_law_X8_clear
set_option maxRecDepth 20000 in
theorem ggL_law_X9_clear : GoodIn wsL_law wsX9_clear := goodIn_r _ [167, 155, 156, 826, 827, 828, 829, 830, 831, 832, 833, 834, 835, 836, 837, 838, 839, 840, 841, 842, 843, 844, 845, 846, 847, 848, 849, 850, 851, 852, 853] (by decide +kernel) (by decide +kernel)
set_option maxRecDepth 20000 in
theorem gL_law_X9_clear : GoodIn wsL_law (wsV RL 22 RX9 yX9_clear wsX9_clear) := goodIn_app (goodIn_r _ [164, 165, 166, 5] (by decide +kernel) (by decide +kernel)) ggL_law_X9_clear
set_option maxRecDepth 20000 in
theorem ggL_law_X8_river : GoodIn wsL_law wsX8_river := goodIn_r _ [171, 19, 23, 24, 28, 32, 35, 42, 15, 145, 172, 173, 174, 175, 18, 176, 177, 178, 179, 180, 181, 182, 183, 61, 62, 22, 63, 64, 65, 66, 67, 184, 185, 186, 187, 54, 188, 189, 190, 191, 14, 192, 48, 193, 194, 195, 196, 197, 198, 199, 200, 201, 202, 203, 204, 205, 206, 207, 208, 209, 210, 211, 212, 213, 214, 215, 113, 114, 115, 216, 217, 218, 219, 220, 221, 222, 223, 59, 224, 117, 118, 225, 226, 227, 228, 229, 230, 231, 232, 233, 234, 235, 236, 237, 238, 239, 240, 241, 242, 243, 244, 245, 96, 97, 98, 27, 99, 100, 101, 102, 103, 104, 105, 106, 107, 72, 73, 108, 109, 110, 111, 112, 116, 246, 247, 248, 31, 249, 80, 250, 813, 814, 815, 816, 817, 818, 819, 820, 821, 822, 823, 824, 825, 854, 855, 863, 864, 865, 866, 867, 856, 857, 858, 859, 860, 861, 862, 868, 869, 870, 871, 872, 873, 874, 875, 876, 877, 878] (by decide +kernel) (by decide +kernel)
set_option maxRecDepth 20000 in
theorem gL_law_X8_river : GoodIn wsL_law (wsV RL 23 RX8 yX8_river wsX8_river) := goodIn_app (goodIn_r _ [168, 169, 170, 2] (by decide +kernel) (by decide +kernel)) ggL_law_X8_river
set_option maxRecDepth 20000 in
theorem ggL_law_X9_river : GoodIn wsL_law wsX9_river := goodIn_r _ [254, 155, 255, 256, 257, 124, 258, 259, 260, 261, 262, 5, 263, 264, 265, 266, 267, 268, 156, 123, 157, 158, 159, 269, 270, 271, 272, 273, 274, 275, 276, 277, 278, 279, 280, 125, 126, 127, 128, 129, 281, 282, 283, 284, 285, 286, 287, 288, 130, 289, 290, 134, 826, 827, 828, 829, 830, 831, 832, 833, 834, 835, 836, 837, 838, 839, 840, 841, 842, 843, 844, 845, 846, 847, 848, 849, 850, 851, 852, 853] (by decide +kernel) (by decide +kernel)
set_option maxRecDepth 20000 in
theorem gL_law_X9_river : GoodIn wsL_law (wsV RL 26 RX9 yX9_river wsX9_river) := goodIn_app (goodIn_r _ [251, 252, 253, 5] (by decide +kernel) (by decide +kernel)) ggL_law_X9_river
set_option maxRecDepth 20000 in
theorem ggL_law_X8_rock : GoodIn wsL_law wsX8_rock := goodIn_r _ [294, 28, 24, 295, 296, 297, 2, 298, 299, 300, 301, 302, 27, 303, 72, 304, 113, 114, 115, 305, 306, 307, 308, 107, 309, 109, 110, 22, 111, 59, 112, 813, 814, 815, 816, 817, 818, 819, 820, 821, 822, 823, 824, 825, 863, 864, 865, 866, 867, 868, 869, 870, 871, 872, 873, 874, 875] (by decide +kernel) (by decide +kernel)
set_option maxRecDepth 20000 in
theorem gL_law_X8_rock : GoodIn wsL_law (wsV RL 27 RX8 yX8_rock wsX8_rock) := goodIn_app (goodIn_r _ [291, 292, 293, 2] (by decide +kernel) (by decide +kernel)) ggL_law_X8_rock
set_option maxRecDepth 20000 in
theorem ggL_law_X9_rock : GoodIn wsL_law wsX9_rock := goodIn_r _ [313, 155, 130, 126, 127, 128, 129, 314, 315, 316, 5, 317, 124, 157, 158, 159, 826, 827, 828, 829, 830, 831, 832, 833, 834, 835, 836, 837, 838, 839, 840, 841, 842, 843, 844, 845, 846, 847, 848, 849, 850, 851, 852, 853] (by decide +kernel) (by decide +kernel)
set_option maxRecDepth 20000 in
theorem gL_law_X9_rock : GoodIn wsL_law (wsV RL 31 RX9 yX9_rock wsX9_rock) := goodIn_app (goodIn_r _ [310, 311, 312, 5] (by decide +kernel) (by decide +kernel)) ggL_law_X9_rock
set_option maxRecDepth 20000 in
theorem ggL_law_X8_takes : GoodIn wsL_law wsX8_takes := goodIn_r _ [321, 295, 296, 297, 2, 298, 24, 299, 322, 323, 324, 325, 28, 305, 306, 307, 27, 308, 107, 300, 301, 302, 303, 72, 304, 113, 114, 115, 326, 327, 328, 22, 329, 330, 109, 110, 111, 59, 112, 331, 332, 333, 334, 813, 814, 815, 816, 817, 818, 819, 820, 821, 822, 823, 824, 825, 863, 864, 865, 866, 867, 868, 869, 870, 871, 872, 873, 874, 875] (by decide +kernel) (by decide +kernel)
set_option maxRecDepth 20000 in
theorem gL_law_X8_takes : GoodIn wsL_law (wsV RL 32 RX8 yX8_takes wsX8_takes) := goodIn_app (goodIn_r _ [318, 319, 320, 2] (by decide +kernel) (by decide +kernel)) ggL_law_X8_takes
set_option maxRecDepth 20000 in
theorem ggL_law_X9_takes : GoodIn wsL_law wsX9_takes := goodIn_r _ [338, 155, 130, 314, 315, 316, 5, 317, 124, 157, 158, 159, 339, 340, 341, 342, 126, 826, 827, 828, 829, 830, 831, 832, 833, 834, 835, 836, 837, 838, 839, 840, 841, 842, 843, 844, 845, 846, 847, 848, 849, 850, 851, 852, 853] (by decide +kernel) (by decide +kernel)
set_option maxRecDepth 20000 in
theorem gL_law_X9_takes : GoodIn wsL_law (wsV RL 35 RX9 yX9_takes wsX9_takes) := goodIn_app (goodIn_r _ [335, 336, 337, 5] (by decide +kernel) (by decide +kernel)) ggL_law_X9_takes
set_option maxRecDepth 20000 in
theorem ggL_law_X8_now : GoodIn wsL_law wsX8_now := goodIn_r _ [346, 28, 347, 348, 349, 350, 351, 32, 352, 353, 354, 355, 2, 356, 24, 299, 357, 358, 359, 360, 309, 109, 110, 22, 111, 59, 112, 113, 114, 115, 322, 323, 324, 325, 305, 306, 307, 27, 308, 107, 300, 301, 302, 303, 72, 304, 326, 327, 328, 329, 330, 331, 332, 333, 334, 813, 814, 815, 816, 817, 818, 819, 820, 821, 822, 823, 824, 825, 868, 869, 870, 871, 872, 873, 874, 875, 876, 877, 878, 863, 864, 865, 866, 867] (by decide +kernel) (by decide +kernel)
set_option maxRecDepth 20000 in
theorem gL_law_X8_now : GoodIn wsL_law (wsV RL 36 RX8 yX8_now wsX8_now) := goodIn_app (goodIn_r _ [343, 344, 345, 2] (by decide +kernel) (by decide +kernel)) ggL_law_X8_now
set_option maxRecDepth 20000 in
theorem ggL_law_X9_now : GoodIn wsL_law wsX9_now := goodIn_r _ [364, 155, 130, 290, 157, 158, 5, 159, 365, 366, 367, 368, 124, 369, 370, 371, 372, 127, 339, 340, 341, 342, 126, 826, 827, 828, 829, 830, 831, 832, 833, 834, 835, 836, 837, 838, 839, 840, 841, 842, 843, 844, 845, 846, 847, 848, 849, 850, 851, 852, 853] (by decide +kernel) (by decide +kernel)
set_option maxRecDepth 20000 in
theorem gL_law_X9_now : GoodIn wsL_law (wsV RL 39 RX9 yX9_now wsX9_now) := goodIn_app (goodIn_r _ [361, 362, 363, 5] (by decide +kernel) (by decide +kernel)) ggL_law_X9_now
set_option maxRecDepth 20000 in
theorem ggL_law_X8_got : GoodIn wsL_law wsX8_got := goodIn_r _ [376, 28, 377, 378, 379, 380, 2, 381, 382, 113, 114, 115, 813, 814, 815, 816, 817, 818, 819, 820, 821, 822, 823, 824, 825, 868, 869, 870, 871, 872, 873, 874, 875] (by decide +kernel) (by decide +kernel)
set_option maxRecDepth 20000 in
theorem gL_law_X8_got : GoodIn wsL_law (wsV RL 40 RX8 yX8_got wsX8_got) := goodIn_app (goodIn_r _ [373, 374, 375, 2] (by decide +kernel) (by decide +kernel)) ggL_law_X8_got
set_option maxRecDepth 20000 in
theorem ggL_law_X9_got : GoodIn wsL_law wsX9_got := goodIn_r _ [386, 155, 130, 157, 158, 5, 159, 826, 827, 828, 829, 830, 831, 832, 833, 834, 835, 836, 837, 838, 839, 840, 841, 842, 843, 844, 845, 846, 847, 848, 849, 850, 851, 852, 853] (by decide +kernel) (by decide +kernel)
set_option maxRecDepth 20000 in
theorem gL_law_X9_got : GoodIn wsL_law (wsV RL 43 RX9 yX9_got wsX9_got) := goodIn_app (goodIn_r _ [383, 384, 385, 5] (by decide +kernel) (by decide +kernel)) ggL_law_X9_got
set_option maxRecDepth 20000 in
theorem ggL_law_X8_pays : GoodIn wsL_law wsX8_pays := goodIn_r _ [390, 28, 349, 32, 24, 347, 377, 353, 354, 355, 2, 356, 299, 357, 358, 359, 360, 350, 348, 309, 109, 110, 22, 111, 59, 112, 113, 114, 115, 322, 323, 324, 325, 305, 306, 307, 27, 308, 107, 300, 301, 302, 303, 72, 304, 326, 327, 328, 329, 330, 331, 332, 333, 334, 391, 392, 393, 31, 394, 81, 80, 395, 202, 203, 204, 396, 397, 398, 399, 79, 400, 401, 402, 403, 100, 102, 104, 105, 106, 73, 404, 244, 245, 382, 250, 117, 118, 405, 406, 407, 408, 813, 814, 815, 816, 817, 818, 819, 820, 821, 822, 823, 824, 825, 868, 869, 870, 871, 872, 873, 874, 875, 863, 864, 865, 866, 867, 876, 877, 878] (by decide +kernel) (by decide +kernel)
set_option maxRecDepth 20000 in
theorem gL_law_X8_pays : GoodIn wsL_law (wsV RL 44 RX8 yX8_pays wsX8_pays) := goodIn_app (goodIn_r _ [387, 388, 389, 2] (by decide +kernel) (by decide +kernel)) ggL_law_X8_pays
set_option maxRecDepth 20000 in
theorem ggL_law_X9_pays : GoodIn wsL_law wsX9_pays := goodIn_r _ [412, 155, 130, 127, 365, 366, 367, 5, 368, 124, 369, 370, 371, 372, 339, 340, 341, 342, 126, 413, 414, 415, 416, 290, 135, 826, 827, 828, 829, 830, 831, 832, 833, 834, 835, 836, 837, 838, 839, 840, 841, 842, 843, 844, 845, 846, 847, 848, 849, 850, 851, 852, 853] (by decide +kernel) (by decide +kernel)
set_option maxRecDepth 20000 in
theorem gL_law_X9_pays : GoodIn wsL_law (wsV RL 47 RX9 yX9_pays wsX9_pays) := goodIn_app (goodIn_r _ [409, 410, 411, 5] (by decide +kernel) (by decide +kernel)) ggL_law_X9_pays
set_option maxRecDepth 20000 in
theorem ggL_law_X8_lands : GoodIn wsL_law wsX8_lands := goodIn_r _ [420, 24, 28, 347, 348, 349, 32, 353, 354, 355, 2, 356, 299, 309, 109, 110, 22, 111, 59, 112, 113, 114, 115, 391, 392, 393, 31, 394, 81, 80, 395, 202, 203, 204, 396, 397, 398, 399, 79, 400, 401, 402, 27, 403, 100, 102, 104, 105, 106, 107, 72, 73, 404, 244, 245, 405, 406, 407, 408, 350, 813, 814, 815, 816, 817, 818, 819, 820, 821, 822, 823, 824, 825, 868, 869, 870, 871, 872, 873, 874, 875, 863, 864, 865, 866, 867, 876, 877, 878] (by decide +kernel) (by decide +kernel)
set_option maxRecDepth 20000 in
theorem gL_law_X8_lands : GoodIn wsL_law (wsV RL 48 RX8 yX8_lands wsX8_lands) := goodIn_app (goodIn_r _ [417, 418, 419, 2] (by decide +kernel) (by decide +kernel)) ggL_law_X8_lands
set_option maxRecDepth 20000 in
theorem ggL_law_X9_lands : GoodIn wsL_law wsX9_lands := goodIn_r _ [424, 155, 129, 130, 365, 366, 367, 5, 368, 124, 413, 414, 415, 416, 290, 135, 826, 827, 828, 829, 830, 831, 832, 833, 834, 835, 836, 837, 838, 839, 840, 841, 842, 843, 844, 845, 846, 847, 848, 849, 850, 851, 852, 853] (by decide +kernel) (by decide +kernel)
set_option maxRecDepth 20000 in
theorem gL_law_X9_lands : GoodIn wsL_law (wsV RL 51 RX9 yX9_lands wsX9_lands) := goodIn_app (goodIn_r _ [421, 422, 423, 5] (by decide +kernel) (by decide +kernel)) ggL_law_X9_lands
set_option maxRecDepth 20000 in
theorem ggL_law_X8_nights : GoodIn wsL_law wsX8_nights := goodIn_r _ [428, 32, 28, 347, 24, 348, 351, 353, 354, 355, 2, 356, 299, 391, 392, 393, 31, 394, 81, 80, 395, 202, 203, 204, 396, 397, 398, 399, 79, 400, 401, 402, 27, 403, 100, 102, 104, 105, 106, 107, 72, 73, 404, 244, 114, 245, 429, 430, 431, 432, 433, 434, 435, 309, 109, 110, 22, 111, 59, 112, 113, 115, 405, 406, 407, 408, 350, 813, 814, 815, 816, 817, 818, 819, 820, 821, 822, 823, 824, 825, 868, 869, 870, 871, 872, 873, 874, 875, 863, 864, 865, 866, 867, 876, 877, 878] (by decide +kernel) (by decide +kernel)
set_option maxRecDepth 20000 in
theorem gL_law_X8_nights : GoodIn wsL_law (wsV RL 52 RX8 yX8_nights wsX8_nights) := goodIn_app (goodIn_r _ [425, 426, 427, 2] (by decide +kernel) (by decide +kernel)) ggL_law_X8_nights
set_option maxRecDepth 20000 in
theorem ggL_law_X9_nights : GoodIn wsL_law wsX9_nights := goodIn_r _ [439, 155, 440, 441, 130, 442, 443, 128, 157, 158, 5, 159, 365, 366, 367, 368, 124, 413, 414, 415, 416, 290, 135, 826, 827, 828, 829, 830, 831, 832, 833, 834, 835, 836, 837, 838, 839, 840, 841, 842, 843, 844, 845, 846, 847, 848, 849, 850, 851, 852, 853] (by decide +kernel) (by decide +kernel)
set_option maxRecDepth 20000 in
theorem gL_law_X9_nights : GoodIn wsL_law (wsV RL 55 RX9 yX9_nights wsX9_nights) := goodIn_app (goodIn_r _ [436, 437, 438, 5] (by decide +kernel) (by decide +kernel)) ggL_law_X9_nights
set_option maxRecDepth 20000 in
theorem ggL_law_X8_sells : GoodIn wsL_law wsX8_sells := goodIn_r _ [447, 28, 349, 348, 448, 32, 391, 392, 393, 31, 394, 81, 80, 395, 202, 203, 204, 396, 397, 398, 399, 79, 400, 401, 402, 27, 403, 100, 102, 104, 105, 106, 107, 72, 73, 404, 244, 114, 245, 813, 814, 815, 816, 817, 818, 819, 820, 821, 822, 823, 824, 825, 868, 869, 870, 871, 872, 873, 874, 875, 876, 877, 878] (by decide +kernel) (by decide +kernel)
set_option maxRecDepth 20000 in
theorem gL_law_X8_sells : GoodIn wsL_law (wsV RL 56 RX8 yX8_sells wsX8_sells) := goodIn_app (goodIn_r _ [444, 445, 446, 2] (by decide +kernel) (by decide +kernel)) ggL_law_X8_sells
set_option maxRecDepth 20000 in
theorem ggL_law_X9_sells : GoodIn wsL_law wsX9_sells := goodIn_r _ [452, 155, 130, 453, 157, 158, 5, 159, 413, 414, 415, 416, 290, 135, 826, 827, 828, 829, 830, 831, 832, 833, 834, 835, 836, 837, 838, 839, 840, 841, 842, 843, 844, 845, 846, 847, 848, 849, 850, 851, 852, 853] (by decide +kernel) (by decide +kernel)
set_option maxRecDepth 20000 in
theorem gL_law_X9_sells : GoodIn wsL_law (wsV RL 59 RX9 yX9_sells wsX9_sells) := goodIn_app (goodIn_r _ [449, 450, 451, 5] (by decide +kernel) (by decide +kernel)) ggL_law_X9_sells
set_option maxRecDepth 20000 in
theorem ggL_law_X8_sets : GoodIn wsL_law wsX8_sets := goodIn_r _ [457, 32, 28, 458, 295, 296, 297, 2, 298, 24, 299, 391, 392, 393, 31, 394, 81, 80, 395, 202, 203, 204, 396, 397, 398, 399, 79, 400, 401, 402, 27, 403, 100, 102, 104, 105, 106, 107, 72, 73, 404, 244, 114, 245, 300, 301, 302, 303, 304, 113, 115, 250, 117, 118, 813, 814, 815, 816, 817, 818, 819, 820, 821, 822, 823, 824, 825, 868, 869, 870, 871, 872, 873, 874, 875, 863, 864, 865, 866, 867, 876, 877, 878] (by decide +kernel) (by decide +kernel)
set_option maxRecDepth 20000 in
theorem gL_law_X8_sets : GoodIn wsL_law (wsV RL 60 RX8 yX8_sets wsX8_sets) := goodIn_app (goodIn_r _ [454, 455, 456, 2] (by decide +kernel) (by decide +kernel)) ggL_law_X8_sets
set_option maxRecDepth 20000 in
theorem ggL_law_X9_sets : GoodIn wsL_law wsX9_sets := goodIn_r _ [462, 155, 130, 314, 315, 316, 5, 317, 124, 157, 158, 159, 413, 414, 415, 416, 290, 135, 826, 827, 828, 829, 830, 831, 832, 833, 834, 835, 836, 837, 838, 839, 840, 841, 842, 843, 844, 845, 846, 847, 848, 849, 850, 851, 852, 853] (by decide +kernel) (by decide +kernel)
set_option maxRecDepth 20000 in
theorem gL_law_X9_sets : GoodIn wsL_law (wsV RL 63 RX9 yX9_sets wsX9_sets) := goodIn_app (goodIn_r _ [459, 460, 461, 5] (by decide +kernel) (by decide +kernel)) ggL_law_X9_sets
set_option maxRecDepth 20000 in
theorem ggL_law_X8_breaks : GoodIn wsL_law wsX8_breaks := goodIn_r _ [466, 28, 32, 467, 295, 296, 297, 2, 298, 24, 299, 305, 306, 307, 27, 308, 107, 391, 392, 393, 31, 394, 81, 80, 395, 202, 203, 204, 396, 397, 398, 399, 79, 400, 401, 402, 403, 100, 102, 104, 105, 106, 72, 73, 404, 244, 114, 245, 468, 469, 470, 471, 472, 473, 474, 813, 814, 815, 816, 817, 818, 819, 820, 821, 822, 823, 824, 825, 868, 869, 870, 871, 872, 873, 874, 875, 863, 864, 865, 866, 867, 876, 877, 878] (by decide +kernel) (by decide +kernel)
set_option maxRecDepth 20000 in
theorem gL_law_X8_breaks : GoodIn wsL_law (wsV RL 64 RX8 yX8_breaks wsX8_breaks) := goodIn_app (goodIn_r _ [463, 464, 465, 2] (by decide +kernel) (by decide +kernel)) ggL_law_X8_breaks
set_option maxRecDepth 20000 in
theorem ggL_law_X9_breaks : GoodIn wsL_law wsX9_breaks := goodIn_r _ [478, 155, 130, 314, 315, 316, 5, 317, 124, 157, 158, 159, 413, 414, 415, 416, 290, 135, 479, 480, 481, 826, 827, 828, 829, 830, 831, 832, 833, 834, 835, 836, 837, 838, 839, 840, 841, 842, 843, 844, 845, 846, 847, 848, 849, 850, 851, 852, 853] (by decide +kernel) (by decide +kernel)
set_option maxRecDepth 20000 in
theorem gL_law_X9_breaks : GoodIn wsL_law (wsV RL 67 RX9 yX9_breaks wsX9_breaks) := goodIn_app (goodIn_r _ [475, 476, 477, 5] (by decide +kernel) (by decide +kernel)) ggL_law_X9_breaks
set_option maxRecDepth 20000 in
theorem ggL_law_X8_undo : GoodIn wsL_law wsX8_undo := goodIn_r _ [485, 32, 352, 28, 486, 487, 488, 31, 489, 81, 80, 396, 397, 398, 399, 79, 400, 401, 402, 27, 403, 100, 102, 104, 105, 106, 107, 72, 73, 404, 244, 114, 245, 813, 814, 815, 816, 817, 818, 819, 820, 821, 822, 823, 824, 825, 876, 877, 878, 868, 869, 870, 871, 872, 873, 874, 875] (by decide +kernel) (by decide +kernel)
set_option maxRecDepth 20000 in
theorem gL_law_X8_undo : GoodIn wsL_law (wsV RL 68 RX8 yX8_undo wsX8_undo) := goodIn_app (goodIn_r _ [482, 483, 484, 2] (by decide +kernel) (by decide +kernel)) ggL_law_X8_undo
set_option maxRecDepth 20000 in
theorem ggL_law_X9_undo : GoodIn wsL_law wsX9_undo := goodIn_r _ [493, 155, 290, 130, 135, 826, 827, 828, 829, 830, 831, 832, 833, 834, 835, 836, 837, 838, 839, 840, 841, 842, 843, 844, 845, 846, 847, 848, 849, 850, 851, 852, 853] (by decide +kernel) (by decide +kernel)
set_option maxRecDepth 20000 in
theorem gL_law_X9_undo : GoodIn wsL_law (wsV RL 71 RX9 yX9_undo wsX9_undo) := goodIn_app (goodIn_r _ [490, 491, 492, 5] (by decide +kernel) (by decide +kernel)) ggL_law_X9_undo
set_option maxRecDepth 20000 in
theorem ggL_law_X8_way : GoodIn wsL_law wsX8_way := goodIn_r _ [497, 24, 299, 28, 347, 39, 498, 499, 500, 501, 502, 2, 503, 504, 505, 506, 38, 507, 508, 509, 510, 511, 512, 513, 514, 515, 516, 88, 517, 244, 114, 245, 518, 519, 520, 521, 522, 523, 524, 525, 87, 526, 91, 92, 93, 527, 113, 115, 528, 327, 328, 22, 329, 330, 109, 110, 111, 59, 112, 331, 332, 333, 334, 529, 117, 118, 530, 531, 532, 533, 534, 535, 202, 203, 204, 536, 537, 538, 539, 95, 540, 541, 542, 543, 544, 545, 546, 547, 548, 549, 550, 551, 552, 553, 554, 555, 556, 557, 558, 559, 560, 561, 562, 563, 564, 90, 89, 94, 382, 813, 814, 815, 816, 817, 818, 819, 820, 821, 822, 823, 824, 825, 863, 864, 865, 866, 867, 868, 869, 870, 871, 872, 873, 874, 875, 879, 880, 881, 882, 883, 884, 885, 886, 887, 888, 889, 890, 891, 892] (by decide +kernel) (by decide +kernel)
set_option maxRecDepth 20000 in
theorem gL_law_X8_way : GoodIn wsL_law (wsV RL 72 RX8 yX8_way wsX8_way) := goodIn_app (goodIn_r _ [494, 495, 496, 2] (by decide +kernel) (by decide +kernel)) ggL_law_X8_way
set_option maxRecDepth 20000 in
theorem ggL_law_X9_way : GoodIn wsL_law wsX9_way := goodIn_r _ [568, 155, 130, 139, 314, 315, 316, 5, 317, 124, 157, 158, 159, 569, 570, 571, 572, 138, 129, 140, 127, 573, 574, 575, 576, 369, 370, 371, 372, 339, 340, 341, 342, 126, 577, 578, 579, 580, 826, 827, 828, 829, 830, 831, 832, 833, 834, 835, 836, 837, 838, 839, 840, 841, 842, 843, 844, 845, 846, 847, 848, 849, 850, 851, 852, 853] (by decide +kernel) (by decide +kernel)
set_option maxRecDepth 20000 in
theorem gL_law_X9_way : GoodIn wsL_law (wsV RL 75 RX9 yX9_way wsX9_way) := goodIn_app (goodIn_r _ [565, 566, 567, 5] (by decide +kernel) (by decide +kernel)) ggL_law_X9_way
set_option maxRecDepth 20000 in
theorem ggL_law_X8_enough : GoodIn wsL_law wsX8_enough := goodIn_r _ [584, 39, 498, 28, 349, 500, 501, 502, 2, 503, 504, 505, 506, 38, 507, 508, 509, 510, 511, 512, 513, 514, 515, 516, 88, 517, 244, 114, 245, 518, 519, 520, 521, 522, 523, 524, 525, 87, 526, 91, 92, 93, 527, 113, 115, 528, 327, 328, 22, 329, 330, 109, 110, 111, 59, 112, 331, 332, 333, 334, 529, 117, 118, 530, 531, 532, 533, 534, 535, 202, 203, 204, 536, 537, 538, 539, 95, 540, 541, 542, 543, 544, 545, 546, 547, 548, 549, 550, 551, 552, 553, 554, 555, 556, 557, 558, 559, 560, 561, 562, 563, 564, 90, 89, 94, 813, 814, 815, 816, 817, 818, 819, 820, 821, 822, 823, 824, 825, 879, 880, 881, 882, 883, 884, 885, 886, 887, 888, 889, 890, 891, 892, 868, 869, 870, 871, 872, 873, 874, 875, 863, 864, 865, 866, 867] (by decide +kernel) (by decide +kernel)
set_option maxRecDepth 20000 in
theorem gL_law_X8_enough : GoodIn wsL_law (wsV RL 76 RX8 yX8_enough wsX8_enough) := goodIn_app (goodIn_r _ [581, 582, 583, 2] (by decide +kernel) (by decide +kernel)) ggL_law_X8_enough
