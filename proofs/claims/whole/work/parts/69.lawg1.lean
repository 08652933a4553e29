set_option maxRecDepth 20000 in
theorem ggL_law_X9_enough : GoodIn wsL_law wsX9_enough := goodIn_r _ [588, 155, 130, 569, 570, 571, 5, 572, 138, 124, 129, 139, 140, 127, 573, 574, 575, 576, 369, 370, 371, 372, 339, 340, 341, 342, 126, 577, 578, 579, 580, 826, 827, 828, 829, 830, 831, 832, 833, 834, 835, 836, 837, 838, 839, 840, 841, 842, 843, 844, 845, 846, 847, 848, 849, 850, 851, 852, 853] (by decide +kernel) (by decide +kernel)
set_option maxRecDepth 20000 in
theorem gL_law_X9_enough : GoodIn wsL_law (wsV RL 79 RX9 yX9_enough wsX9_enough) := goodIn_app (goodIn_r _ [585, 586, 587, 5] (by decide +kernel) (by decide +kernel)) ggL_law_X9_enough
set_option maxRecDepth 20000 in
theorem ggL_law_X8_toBreak : GoodIn wsL_law wsX8_toBreak := goodIn_r _ [592, 593, 594, 595, 2, 596, 28, 347, 24, 299, 468, 469, 470, 471, 472, 473, 474, 597, 598, 599, 600, 39, 601, 498, 504, 505, 506, 38, 507, 508, 509, 510, 511, 512, 513, 514, 515, 516, 88, 517, 244, 114, 245, 518, 519, 520, 521, 522, 523, 524, 525, 87, 526, 91, 92, 93, 527, 113, 115, 528, 327, 328, 22, 329, 330, 109, 110, 111, 59, 112, 331, 332, 333, 334, 529, 117, 118, 530, 531, 532, 533, 534, 535, 202, 203, 204, 536, 537, 538, 539, 95, 540, 541, 542, 543, 544, 545, 546, 547, 548, 549, 550, 551, 552, 553, 554, 555, 556, 557, 558, 559, 560, 561, 562, 563, 564, 90, 89, 94, 813, 814, 815, 816, 817, 818, 819, 820, 821, 822, 823, 824, 825, 868, 869, 870, 871, 872, 873, 874, 875, 863, 864, 865, 866, 867, 879, 880, 881, 882, 883, 884, 885, 886, 887, 888, 889, 890, 891, 892] (by decide +kernel) (by decide +kernel)
set_option maxRecDepth 20000 in
theorem gL_law_X8_toBreak : GoodIn wsL_law (wsV RL 80 RX8 yX8_toBreak wsX8_toBreak) := goodIn_app (goodIn_r _ [589, 590, 591, 2] (by decide +kernel) (by decide +kernel)) ggL_law_X8_toBreak
set_option maxRecDepth 20000 in
theorem ggL_law_X9_toBreak : GoodIn wsL_law wsX9_toBreak := goodIn_r _ [605, 155, 131, 130, 157, 158, 5, 159, 606, 607, 608, 609, 610, 611, 612, 613, 124, 479, 480, 481, 569, 570, 571, 572, 138, 129, 139, 140, 127, 573, 574, 575, 576, 369, 370, 371, 372, 339, 340, 341, 342, 126, 577, 578, 579, 580, 826, 827, 828, 829, 830, 831, 832, 833, 834, 835, 836, 837, 838, 839, 840, 841, 842, 843, 844, 845, 846, 847, 848, 849, 850, 851, 852, 853] (by decide +kernel) (by decide +kernel)
set_option maxRecDepth 20000 in
theorem gL_law_X9_toBreak : GoodIn wsL_law (wsV RL 83 RX9 yX9_toBreak wsX9_toBreak) := goodIn_app (goodIn_r _ [602, 603, 604, 5] (by decide +kernel) (by decide +kernel)) ggL_law_X9_toBreak
set_option maxRecDepth 20000 in
theorem ggL_law_X8_byLord : GoodIn wsL_law wsX8_byLord := goodIn_r _ [617, 28, 347, 24, 299, 39, 618, 378, 379, 380, 2, 381, 500, 501, 502, 503, 504, 505, 506, 38, 507, 508, 509, 510, 511, 512, 513, 514, 515, 516, 88, 517, 244, 114, 245, 518, 519, 520, 521, 522, 523, 524, 525, 87, 526, 91, 92, 93, 527, 113, 115, 528, 327, 328, 22, 329, 330, 109, 110, 111, 59, 112, 331, 332, 333, 334, 529, 117, 118, 530, 531, 532, 533, 534, 535, 202, 203, 204, 536, 537, 538, 539, 95, 540, 541, 542, 543, 544, 545, 546, 547, 548, 549, 550, 551, 552, 553, 554, 555, 556, 557, 558, 559, 560, 561, 562, 563, 564, 90, 89, 94, 309, 382, 813, 814, 815, 816, 817, 818, 819, 820, 821, 822, 823, 824, 825, 868, 869, 870, 871, 872, 873, 874, 875, 863, 864, 865, 866, 867, 879, 880, 881, 882, 883, 884, 885, 886, 887, 888, 889, 890, 891, 892] (by decide +kernel) (by decide +kernel)
set_option maxRecDepth 20000 in
theorem gL_law_X8_byLord : GoodIn wsL_law (wsV RL 84 RX8 yX8_byLord wsX8_byLord) := goodIn_app (goodIn_r _ [614, 615, 616, 2] (by decide +kernel) (by decide +kernel)) ggL_law_X8_byLord
set_option maxRecDepth 20000 in
theorem ggL_law_X9_byLord : GoodIn wsL_law wsX9_byLord := goodIn_r _ [622, 155, 130, 124, 127, 157, 158, 5, 159, 569, 570, 571, 572, 138, 129, 139, 140, 573, 574, 575, 576, 369, 370, 371, 372, 339, 340, 341, 342, 126, 577, 578, 579, 580, 623, 624, 625, 626, 826, 827, 828, 829, 830, 831, 832, 833, 834, 835, 836, 837, 838, 839, 840, 841, 842, 843, 844, 845, 846, 847, 848, 849, 850, 851, 852, 853] (by decide +kernel) (by decide +kernel)
set_option maxRecDepth 20000 in
theorem gL_law_X9_byLord : GoodIn wsL_law (wsV RL 87 RX9 yX9_byLord wsX9_byLord) := goodIn_app (goodIn_r _ [619, 620, 621, 5] (by decide +kernel) (by decide +kernel)) ggL_law_X9_byLord
set_option maxRecDepth 20000 in
theorem ggL_law_X8_most : GoodIn wsL_law wsX8_most := goodIn_r _ [630, 28, 347, 295, 296, 297, 2, 298, 24, 299, 305, 306, 307, 27, 308, 107, 631, 632, 633, 634, 39, 635, 618, 504, 505, 506, 38, 507, 508, 509, 510, 511, 512, 513, 514, 515, 516, 88, 517, 244, 114, 245, 250, 117, 118, 518, 519, 520, 521, 522, 523, 524, 525, 87, 526, 91, 92, 93, 527, 113, 115, 528, 327, 328, 22, 329, 330, 109, 110, 111, 59, 112, 331, 332, 333, 334, 529, 530, 531, 532, 533, 534, 535, 202, 203, 204, 536, 537, 538, 539, 95, 540, 541, 542, 543, 544, 545, 546, 547, 548, 549, 550, 551, 552, 553, 554, 555, 556, 557, 558, 559, 560, 561, 562, 563, 564, 90, 89, 94, 382, 813, 814, 815, 816, 817, 818, 819, 820, 821, 822, 823, 824, 825, 868, 869, 870, 871, 872, 873, 874, 875, 863, 864, 865, 866, 867, 879, 880, 881, 882, 883, 884, 885, 886, 887, 888, 889, 890, 891, 892] (by decide +kernel) (by decide +kernel)
set_option maxRecDepth 20000 in
theorem gL_law_X8_most : GoodIn wsL_law (wsV RL 88 RX8 yX8_most wsX8_most) := goodIn_app (goodIn_r _ [627, 628, 629, 2] (by decide +kernel) (by decide +kernel)) ggL_law_X8_most
set_option maxRecDepth 20000 in
theorem ggL_law_X9_most : GoodIn wsL_law wsX9_most := goodIn_r _ [639, 155, 130, 131, 314, 315, 316, 5, 317, 124, 157, 158, 159, 606, 607, 608, 609, 569, 570, 571, 572, 138, 129, 139, 140, 127, 573, 574, 575, 576, 369, 370, 371, 372, 339, 340, 341, 342, 126, 577, 578, 579, 580, 623, 624, 625, 626, 826, 827, 828, 829, 830, 831, 832, 833, 834, 835, 836, 837, 838, 839, 840, 841, 842, 843, 844, 845, 846, 847, 848, 849, 850, 851, 852, 853] (by decide +kernel) (by decide +kernel)
set_option maxRecDepth 20000 in
theorem gL_law_X9_most : GoodIn wsL_law (wsV RL 91 RX9 yX9_most wsX9_most) := goodIn_app (goodIn_r _ [636, 637, 638, 5] (by decide +kernel) (by decide +kernel)) ggL_law_X9_most
set_option maxRecDepth 20000 in
theorem ggL_law_X8_still : GoodIn wsL_law wsX8_still := goodIn_r _ [643, 28, 347, 24, 299, 300, 301, 302, 27, 303, 72, 304, 113, 114, 115, 631, 632, 633, 2, 634, 39, 635, 618, 504, 505, 506, 38, 507, 508, 509, 510, 511, 512, 513, 514, 515, 516, 88, 517, 244, 245, 250, 117, 118, 518, 519, 520, 521, 522, 523, 524, 525, 87, 526, 91, 92, 93, 527, 528, 327, 328, 22, 329, 330, 109, 110, 111, 59, 112, 331, 332, 333, 334, 529, 530, 531, 532, 533, 534, 535, 202, 203, 204, 536, 537, 538, 539, 95, 540, 541, 542, 543, 544, 545, 546, 547, 548, 549, 550, 551, 552, 553, 554, 555, 556, 557, 558, 559, 560, 561, 562, 563, 564, 90, 89, 94, 382, 813, 814, 815, 816, 817, 818, 819, 820, 821, 822, 823, 824, 825, 868, 869, 870, 871, 872, 873, 874, 875, 863, 864, 865, 866, 867, 879, 880, 881, 882, 883, 884, 885, 886, 887, 888, 889, 890, 891, 892] (by decide +kernel) (by decide +kernel)
set_option maxRecDepth 20000 in
theorem gL_law_X8_still : GoodIn wsL_law (wsV RL 92 RX8 yX8_still wsX8_still) := goodIn_app (goodIn_r _ [640, 641, 642, 2] (by decide +kernel) (by decide +kernel)) ggL_law_X8_still
set_option maxRecDepth 20000 in
theorem ggL_law_X9_still : GoodIn wsL_law wsX9_still := goodIn_r _ [647, 155, 130, 124, 131, 606, 607, 608, 5, 609, 569, 570, 571, 572, 138, 129, 139, 140, 127, 573, 574, 575, 576, 369, 370, 371, 372, 339, 340, 341, 342, 126, 577, 578, 579, 580, 623, 624, 625, 626, 826, 827, 828, 829, 830, 831, 832, 833, 834, 835, 836, 837, 838, 839, 840, 841, 842, 843, 844, 845, 846, 847, 848, 849, 850, 851, 852, 853] (by decide +kernel) (by decide +kernel)
set_option maxRecDepth 20000 in
theorem gL_law_X9_still : GoodIn wsL_law (wsV RL 95 RX9 yX9_still wsX9_still) := goodIn_app (goodIn_r _ [644, 645, 646, 5] (by decide +kernel) (by decide +kernel)) ggL_law_X9_still
set_option maxRecDepth 20000 in
theorem ggL_law_X8_cheap : GoodIn wsL_law wsX8_cheap := goodIn_r _ [651, 295, 296, 297, 2, 298, 24, 299, 322, 323, 324, 325, 28, 305, 306, 307, 27, 308, 107, 300, 301, 302, 303, 72, 304, 113, 114, 115, 326, 327, 328, 22, 329, 330, 109, 110, 111, 59, 112, 331, 332, 333, 334, 652, 653, 654, 655, 656, 657, 813, 814, 815, 816, 817, 818, 819, 820, 821, 822, 823, 824, 825, 863, 864, 865, 866, 867, 868, 869, 870, 871, 872, 873, 874, 875] (by decide +kernel) (by decide +kernel)
set_option maxRecDepth 20000 in
theorem gL_law_X8_cheap : GoodIn wsL_law (wsV RL 96 RX8 yX8_cheap wsX8_cheap) := goodIn_app (goodIn_r _ [648, 649, 650, 2] (by decide +kernel) (by decide +kernel)) ggL_law_X8_cheap
set_option maxRecDepth 20000 in
theorem ggL_law_X9_cheap : GoodIn wsL_law wsX9_cheap := goodIn_r _ [661, 155, 130, 314, 315, 316, 5, 317, 124, 157, 158, 159, 339, 340, 341, 342, 126, 662, 663, 664, 826, 827, 828, 829, 830, 831, 832, 833, 834, 835, 836, 837, 838, 839, 840, 841, 842, 843, 844, 845, 846, 847, 848, 849, 850, 851, 852, 853] (by decide +kernel) (by decide +kernel)
set_option maxRecDepth 20000 in
theorem gL_law_X9_cheap : GoodIn wsL_law (wsV RL 99 RX9 yX9_cheap wsX9_cheap) := goodIn_app (goodIn_r _ [658, 659, 660, 5] (by decide +kernel) (by decide +kernel)) ggL_law_X9_cheap
set_option maxRecDepth 20000 in
theorem ggL_law_X8_two : GoodIn wsL_law wsX8_two := goodIn_r _ [668, 28, 348, 669, 670, 671, 2, 672, 39, 673, 498, 504, 505, 506, 38, 507, 508, 509, 510, 511, 512, 513, 514, 515, 516, 88, 517, 244, 114, 245, 518, 519, 520, 521, 522, 523, 524, 525, 87, 526, 91, 92, 93, 527, 113, 115, 528, 327, 328, 22, 329, 330, 109, 110, 111, 59, 112, 331, 332, 333, 334, 529, 117, 118, 530, 531, 532, 533, 534, 535, 202, 203, 204, 536, 537, 538, 539, 95, 540, 541, 542, 543, 544, 545, 546, 547, 548, 549, 550, 551, 552, 553, 554, 555, 556, 557, 558, 559, 560, 561, 562, 563, 564, 90, 89, 94, 813, 814, 815, 816, 817, 818, 819, 820, 821, 822, 823, 824, 825, 868, 869, 870, 871, 872, 873, 874, 875, 879, 880, 881, 882, 883, 884, 885, 886, 887, 888, 889, 890, 891, 892, 863, 864, 865, 866, 867] (by decide +kernel) (by decide +kernel)
set_option maxRecDepth 20000 in
theorem gL_law_X8_two : GoodIn wsL_law (wsV RL 100 RX8 yX8_two wsX8_two) := goodIn_app (goodIn_r _ [665, 666, 667, 2] (by decide +kernel) (by decide +kernel)) ggL_law_X8_two
set_option maxRecDepth 20000 in
theorem ggL_law_X9_two : GoodIn wsL_law wsX9_two := goodIn_r _ [677, 155, 130, 157, 158, 5, 159, 569, 570, 571, 572, 138, 124, 129, 139, 140, 127, 573, 574, 575, 576, 369, 370, 371, 372, 339, 340, 341, 342, 126, 577, 578, 579, 580, 826, 827, 828, 829, 830, 831, 832, 833, 834, 835, 836, 837, 838, 839, 840, 841, 842, 843, 844, 845, 846, 847, 848, 849, 850, 851, 852, 853] (by decide +kernel) (by decide +kernel)
set_option maxRecDepth 20000 in
theorem gL_law_X9_two : GoodIn wsL_law (wsV RL 103 RX9 yX9_two wsX9_two) := goodIn_app (goodIn_r _ [674, 675, 676, 5] (by decide +kernel) (by decide +kernel)) ggL_law_X9_two
set_option maxRecDepth 20000 in
theorem ggL_law_X8_one : GoodIn wsL_law wsX8_one := goodIn_r _ [681, 28, 348, 39, 498, 500, 501, 502, 2, 503, 504, 505, 506, 38, 507, 508, 509, 510, 511, 512, 513, 514, 515, 516, 88, 517, 244, 114, 245, 518, 519, 520, 521, 522, 523, 524, 525, 87, 526, 91, 92, 93, 527, 113, 115, 528, 327, 328, 22, 329, 330, 109, 110, 111, 59, 112, 331, 332, 333, 334, 529, 117, 118, 530, 531, 532, 533, 534, 535, 202, 203, 204, 536, 537, 538, 539, 95, 540, 541, 542, 543, 544, 545, 546, 547, 548, 549, 550, 551, 552, 553, 554, 555, 556, 557, 558, 559, 560, 561, 562, 563, 564, 90, 89, 94, 682, 813, 814, 815, 816, 817, 818, 819, 820, 821, 822, 823, 824, 825, 868, 869, 870, 871, 872, 873, 874, 875, 879, 880, 881, 882, 883, 884, 885, 886, 887, 888, 889, 890, 891, 892, 863, 864, 865, 866, 867] (by decide +kernel) (by decide +kernel)
set_option maxRecDepth 20000 in
theorem gL_law_X8_one : GoodIn wsL_law (wsV RL 104 RX8 yX8_one wsX8_one) := goodIn_app (goodIn_r _ [678, 679, 680, 2] (by decide +kernel) (by decide +kernel)) ggL_law_X8_one
set_option maxRecDepth 20000 in
theorem ggL_law_X9_one : GoodIn wsL_law wsX9_one := goodIn_r _ [686, 155, 130, 569, 570, 571, 5, 572, 138, 124, 129, 139, 140, 127, 573, 574, 575, 576, 369, 370, 371, 372, 339, 340, 341, 342, 126, 577, 578, 579, 580, 826, 827, 828, 829, 830, 831, 832, 833, 834, 835, 836, 837, 838, 839, 840, 841, 842, 843, 844, 845, 846, 847, 848, 849, 850, 851, 852, 853] (by decide +kernel) (by decide +kernel)
set_option maxRecDepth 20000 in
theorem gL_law_X9_one : GoodIn wsL_law (wsV RL 107 RX9 yX9_one wsX9_one) := goodIn_app (goodIn_r _ [683, 684, 685, 5] (by decide +kernel) (by decide +kernel)) ggL_law_X9_one
set_option maxRecDepth 20000 in
theorem ggL_law_X8_left : GoodIn wsL_law wsX8_left := goodIn_r _ [690, 42, 40, 41, 250, 117, 114, 118, 813, 814, 815, 816, 817, 818, 819, 820, 821, 822, 823, 824, 825] (by decide +kernel) (by decide +kernel)
set_option maxRecDepth 20000 in
theorem gL_law_X8_left : GoodIn wsL_law (wsV RL 108 RX8 yX8_left wsX8_left) := goodIn_app (goodIn_r _ [687, 688, 689, 2] (by decide +kernel) (by decide +kernel)) ggL_law_X8_left
set_option maxRecDepth 20000 in
theorem ggL_law_X9_left : GoodIn wsL_law wsX9_left := goodIn_r _ [694, 155, 289, 136, 137, 157, 158, 5, 159, 826, 827, 828, 829, 830, 831, 832, 833, 834, 835, 836, 837, 838, 839, 840, 841, 842, 843, 844, 845, 846, 847, 848, 849, 850, 851, 852, 853] (by decide +kernel) (by decide +kernel)
set_option maxRecDepth 20000 in
theorem gL_law_X9_left : GoodIn wsL_law (wsV RL 111 RX9 yX9_left wsX9_left) := goodIn_app (goodIn_r _ [691, 692, 693, 5] (by decide +kernel) (by decide +kernel)) ggL_law_X9_left
set_option maxRecDepth 20000 in
theorem ggL_law_X8_forget : GoodIn wsL_law wsX8_forget := goodIn_r _ [698, 42, 813, 814, 815, 816, 817, 818, 819, 820, 821, 822, 823, 824, 825] (by decide +kernel) (by decide +kernel)
set_option maxRecDepth 20000 in
theorem gL_law_X8_forget : GoodIn wsL_law (wsV RL 112 RX8 yX8_forget wsX8_forget) := goodIn_app (goodIn_r _ [695, 696, 697, 2] (by decide +kernel) (by decide +kernel)) ggL_law_X8_forget
set_option maxRecDepth 20000 in
theorem ggL_law_X9_forget : GoodIn wsL_law wsX9_forget := goodIn_r _ [702, 155, 289, 826, 827, 828, 829, 830, 831, 832, 833, 834, 835, 836, 837, 838, 839, 840, 841, 842, 843, 844, 845, 846, 847, 848, 849, 850, 851, 852, 853] (by decide +kernel) (by decide +kernel)
set_option maxRecDepth 20000 in
theorem gL_law_X9_forget : GoodIn wsL_law (wsV RL 115 RX9 yX9_forget wsX9_forget) := goodIn_app (goodIn_r _ [699, 700, 701, 5] (by decide +kernel) (by decide +kernel)) ggL_law_X9_forget
set_option maxRecDepth 20000 in
theorem ggL_law_X8_took : GoodIn wsL_law wsX8_took := goodIn_r _ [706, 28, 347, 24, 299, 500, 501, 502, 2, 503, 39, 504, 505, 506, 38, 507, 508, 509, 510, 511, 512, 513, 514, 515, 516, 88, 517, 244, 114, 245, 518, 519, 520, 521, 522, 523, 524, 525, 87, 526, 91, 92, 93, 527, 113, 115, 528, 327, 328, 22, 329, 330, 109, 110, 111, 59, 112, 331, 332, 333, 334, 529, 117, 118, 530, 531, 532, 533, 534, 535, 202, 203, 204, 536, 537, 538, 539, 95, 540, 541, 542, 543, 544, 545, 546, 547, 548, 549, 550, 551, 552, 553, 554, 555, 556, 557, 558, 559, 560, 561, 562, 563, 564, 90, 89, 94, 707, 708, 709, 710, 42, 40, 349, 41, 382, 711, 712, 713, 714, 813, 814, 815, 816, 817, 818, 819, 820, 821, 822, 823, 824, 825, 868, 869, 870, 871, 872, 873, 874, 875, 863, 864, 865, 866, 867, 879, 880, 881, 882, 883, 884, 885, 886, 887, 888, 889, 890, 891, 892] (by decide +kernel) (by decide +kernel)
set_option maxRecDepth 20000 in
theorem gL_law_X8_took : GoodIn wsL_law (wsV RL 116 RX8 yX8_took wsX8_took) := goodIn_app (goodIn_r _ [703, 704, 705, 2] (by decide +kernel) (by decide +kernel)) ggL_law_X8_took
set_option maxRecDepth 20000 in
theorem ggL_law_X9_took : GoodIn wsL_law wsX9_took := goodIn_r _ [718, 155, 130, 124, 569, 570, 571, 5, 572, 138, 129, 139, 140, 127, 573, 574, 575, 576, 369, 370, 371, 372, 339, 340, 341, 342, 126, 577, 578, 579, 580, 719, 720, 721, 722, 289, 136, 137, 826, 827, 828, 829, 830, 831, 832, 833, 834, 835, 836, 837, 838, 839, 840, 841, 842, 843, 844, 845, 846, 847, 848, 849, 850, 851, 852, 853] (by decide +kernel) (by decide +kernel)
set_option maxRecDepth 20000 in
theorem gL_law_X9_took : GoodIn wsL_law (wsV RL 119 RX9 yX9_took wsX9_took) := goodIn_app (goodIn_r _ [715, 716, 717, 5] (by decide +kernel) (by decide +kernel)) ggL_law_X9_took
set_option maxRecDepth 20000 in
theorem ggL_law_X8_odds : GoodIn wsL_law wsX8_odds := goodIn_r _ [726, 24, 299, 28, 347, 309, 109, 110, 22, 111, 59, 112, 113, 114, 115, 652, 653, 333, 654, 655, 656, 657, 813, 814, 815, 816, 817, 818, 819, 820, 821, 822, 823, 824, 825, 863, 864, 865, 866, 867, 868, 869, 870, 871, 872, 873, 874, 875] (by decide +kernel) (by decide +kernel)
set_option maxRecDepth 20000 in
theorem gL_law_X8_odds : GoodIn wsL_law (wsV RL 120 RX8 yX8_odds wsX8_odds) := goodIn_app (goodIn_r _ [723, 724, 725, 2] (by decide +kernel) (by decide +kernel)) ggL_law_X8_odds
set_option maxRecDepth 20000 in
theorem ggL_law_X9_odds : GoodIn wsL_law wsX9_odds := goodIn_r _ [730, 155, 124, 130, 128, 157, 158, 5, 159, 662, 663, 664, 826, 827, 828, 829, 830, 831, 832, 833, 834, 835, 836, 837, 838, 839, 840, 841, 842, 843, 844, 845, 846, 847, 848, 849, 850, 851, 852, 853] (by decide +kernel) (by decide +kernel)
set_option maxRecDepth 20000 in
theorem gL_law_X9_odds : GoodIn wsL_law (wsV RL 123 RX9 yX9_odds wsX9_odds) := goodIn_app (goodIn_r _ [727, 728, 729, 5] (by decide +kernel) (by decide +kernel)) ggL_law_X9_odds
set_option maxRecDepth 20000 in
theorem ggL_law_X8_rate : GoodIn wsL_law wsX8_rate := goodIn_r _ [734, 735, 295, 296, 297, 2, 298, 24, 299, 736, 737, 738, 739, 43, 28, 300, 301, 302, 27, 303, 72, 304, 113, 114, 115, 740, 741, 742, 743, 744, 309, 109, 110, 22, 111, 59, 112, 745, 746, 747, 748, 749, 750, 751, 752, 753, 754, 755, 756, 757, 758, 759, 760, 761, 762, 763, 764, 348, 813, 814, 815, 816, 817, 818, 819, 820, 821, 822, 823, 824, 825, 863, 864, 865, 866, 867, 868, 869, 870, 871, 872, 873, 874, 875] (by decide +kernel) (by decide +kernel)
set_option maxRecDepth 20000 in
theorem gL_law_X8_rate : GoodIn wsL_law (wsV RL 124 RX8 yX8_rate wsX8_rate) := goodIn_app (goodIn_r _ [731, 732, 733, 2] (by decide +kernel) (by decide +kernel)) ggL_law_X8_rate
set_option maxRecDepth 20000 in
theorem ggL_law_X9_rate : GoodIn wsL_law wsX9_rate := goodIn_r _ [768, 155, 769, 130, 770, 771, 772, 773, 774, 775, 128, 129, 157, 158, 5, 159, 314, 315, 316, 317, 124, 826, 827, 828, 829, 830, 831, 832, 833, 834, 835, 836, 837, 838, 839, 840, 841, 842, 843, 844, 845, 846, 847, 848, 849, 850, 851, 852, 853] (by decide +kernel) (by decide +kernel)
set_option maxRecDepth 20000 in
theorem gL_law_X9_rate : GoodIn wsL_law (wsV RL 127 RX9 yX9_rate wsX9_rate) := goodIn_app (goodIn_r _ [765, 766, 767, 5] (by decide +kernel) (by decide +kernel)) ggL_law_X9_rate
set_option maxRecDepth 20000 in
theorem ggL_law_X8_keep : GoodIn wsL_law wsX8_keep := goodIn_r _ [779, 28, 35, 347, 780, 781, 782, 2, 783, 33, 784, 401, 402, 27, 403, 100, 102, 104, 105, 106, 107, 72, 73, 404, 244, 114, 245, 250, 117, 118, 813, 814, 815, 816, 817, 818, 819, 820, 821, 822, 823, 824, 825, 868, 869, 870, 871, 872, 873, 874, 875] (by decide +kernel) (by decide +kernel)
set_option maxRecDepth 20000 in
theorem gL_law_X8_keep : GoodIn wsL_law (wsV RL 128 RX8 yX8_keep wsX8_keep) := goodIn_app (goodIn_r _ [776, 777, 778, 2] (by decide +kernel) (by decide +kernel)) ggL_law_X8_keep
set_option maxRecDepth 20000 in
theorem ggL_law_X9_keep : GoodIn wsL_law wsX9_keep := goodIn_r _ [788, 155, 132, 130, 134, 157, 158, 5, 159, 826, 827, 828, 829, 830, 831, 832, 833, 834, 835, 836, 837, 838, 839, 840, 841, 842, 843, 844, 845, 846, 847, 848, 849, 850, 851, 852, 853] (by decide +kernel) (by decide +kernel)
set_option maxRecDepth 20000 in
theorem gL_law_X9_keep : GoodIn wsL_law (wsV RL 131 RX9 yX9_keep wsX9_keep) := goodIn_app (goodIn_r _ [785, 786, 787, 5] (by decide +kernel) (by decide +kernel)) ggL_law_X9_keep
set_option maxRecDepth 20000 in
theorem ggL_law_X8_back : GoodIn wsL_law wsX8_back := goodIn_r _ [792, 35, 28, 32, 347, 780, 781, 782, 2, 783, 33, 382, 113, 114, 115, 784, 401, 402, 27, 403, 100, 102, 104, 105, 106, 107, 72, 73, 404, 244, 245, 246, 247, 248, 31, 249, 80, 813, 814, 815, 816, 817, 818, 819, 820, 821, 822, 823, 824, 825, 868, 869, 870, 871, 872, 873, 874, 875, 876, 877, 878] (by decide +kernel) (by decide +kernel)
set_option maxRecDepth 20000 in
theorem gL_law_X8_back : GoodIn wsL_law (wsV RL 132 RX8 yX8_back wsX8_back) := goodIn_app (goodIn_r _ [789, 790, 791, 2] (by decide +kernel) (by decide +kernel)) ggL_law_X8_back
set_option maxRecDepth 20000 in
theorem ggL_law_X9_back : GoodIn wsL_law wsX9_back := goodIn_r _ [796, 155, 134, 130, 132, 290, 157, 158, 5, 159, 826, 827, 828, 829, 830, 831, 832, 833, 834, 835, 836, 837, 838, 839, 840, 841, 842, 843, 844, 845, 846, 847, 848, 849, 850, 851, 852, 853] (by decide +kernel) (by decide +kernel)
set_option maxRecDepth 20000 in
theorem gL_law_X9_back : GoodIn wsL_law (wsV RL 135 RX9 yX9_back wsX9_back) := goodIn_app (goodIn_r _ [793, 794, 795, 5] (by decide +kernel) (by decide +kernel)) ggL_law_X9_back
set_option maxRecDepth 20000 in
theorem ggL_law_X8_count : GoodIn wsL_law wsX8_count := goodIn_r _ [800, 24, 299, 42, 15, 145, 813, 814, 815, 816, 817, 818, 819, 820, 821, 822, 823, 824, 825, 863, 864, 865, 866, 867, 854, 855] (by decide +kernel) (by decide +kernel)
set_option maxRecDepth 20000 in
theorem gL_law_X8_count : GoodIn wsL_law (wsV RL 136 RX8 yX8_count wsX8_count) := goodIn_app (goodIn_r _ [797, 798, 799, 2] (by decide +kernel) (by decide +kernel)) ggL_law_X8_count
set_option maxRecDepth 20000 in
theorem ggL_law_X9_count : GoodIn wsL_law wsX9_count := goodIn_r _ [804, 155, 124, 289, 156, 826, 827, 828, 829, 830, 831, 832, 833, 834, 835, 836, 837, 838, 839, 840, 841, 842, 843, 844, 845, 846, 847, 848, 849, 850, 851, 852, 853] (by decide +kernel) (by decide +kernel)
set_option maxRecDepth 20000 in
theorem gL_law_X9_count : GoodIn wsL_law (wsV RL 139 RX9 yX9_count wsX9_count) := goodIn_app (goodIn_r _ [801, 802, 803, 5] (by decide +kernel) (by decide +kernel)) ggL_law_X9_count
set_option maxRecDepth 20000 in
theorem ggL_law_X8_trace : GoodIn wsL_law wsX8_trace := goodIn_r _ [808, 43, 813, 814, 815, 816, 817, 818, 819, 820, 821, 822, 823, 824, 825] (by decide +kernel) (by decide +kernel)
set_option maxRecDepth 20000 in
theorem gL_law_X8_trace : GoodIn wsL_law (wsV RL 140 RX8 yX8_trace wsX8_trace) := goodIn_app (goodIn_r _ [805, 806, 807, 2] (by decide +kernel) (by decide +kernel)) ggL_law_X8_trace
set_option maxRecDepth 20000 in
theorem ggL_law_X9_trace : GoodIn wsL_law wsX9_trace := goodIn_r _ [812, 155, 770, 826, 827, 828, 829, 830, 831, 832, 833, 834, 835, 836, 837, 838, 839, 840, 841, 842, 843, 844, 845, 846, 847, 848, 849, 850, 851, 852, 853] (by decide +kernel) (by decide +kernel)
set_option maxRecDepth 20000 in
theorem gL_law_X9_trace : GoodIn wsL_law (wsV RL 144 RX9 yX9_trace wsX9_trace) := goodIn_app (goodIn_r _ [809, 810, 811, 5] (by decide +kernel) (by decide +kernel)) ggL_law_X9_trace
