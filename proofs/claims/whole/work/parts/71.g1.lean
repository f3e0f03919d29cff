set_option maxRecDepth 20000 in
theorem ggL_law_X6_hush : GoodIn wsL_law wsX6_hush := goodIn_r _ [612, 232, 181, 76, 285, 286, 287, 5, 288, 231, 293, 294, 295, 296, 297, 298, 299, 300, 230, 301, 302, 303, 304, 75, 305, 306, 307, 289, 290, 291, 292, 73, 74, 834, 835, 836, 837, 838, 839, 840, 841, 842, 843, 844, 845, 846, 847, 848, 849, 850, 851, 852, 853, 854, 855, 856, 857, 858, 859, 860, 861, 862, 863] (by decide +kernel) (by decide +kernel)
set_option maxRecDepth 20000 in
theorem gL_law_X6_hush : GoodIn wsL_law (wsV RL 90 RX6 yX6_hush wsX6_hush) := goodIn_app (goodIn_r _ [609, 610, 611, 5] (by decide +kernel) (by decide +kernel)) ggL_law_X6_hush
set_option maxRecDepth 20000 in
theorem ggL_law_X5_reading : GoodIn wsL_law wsX5_reading := goodIn_r _ [616, 15, 24, 92, 315, 316, 317, 14, 318, 131, 241, 242, 243, 244, 130, 617, 618, 619, 23, 620, 51, 621, 52, 53, 54, 824, 825, 826, 827, 828, 829, 830, 831, 832, 833, 877, 878, 879, 880, 881, 864, 865, 866, 867, 868, 869, 870, 871, 872, 873] (by decide +kernel) (by decide +kernel)
set_option maxRecDepth 20000 in
theorem gL_law_X5_reading : GoodIn wsL_law (wsV RL 91 RX5 yX5_reading wsX5_reading) := goodIn_app (goodIn_r _ [613, 614, 615, 2] (by decide +kernel) (by decide +kernel)) ggL_law_X5_reading
set_option maxRecDepth 20000 in
theorem ggL_law_X6_reading : GoodIn wsL_law wsX6_reading := goodIn_r _ [625, 234, 82, 83, 84, 85, 332, 333, 334, 5, 335, 181, 285, 286, 287, 288, 231, 185, 186, 187, 834, 835, 836, 837, 838, 839, 840, 841, 842, 843, 844, 845, 846, 847, 848, 849, 850, 851, 852, 853, 854, 855, 856, 857, 858, 859, 860, 861, 862, 863] (by decide +kernel) (by decide +kernel)
set_option maxRecDepth 20000 in
theorem gL_law_X6_reading : GoodIn wsL_law (wsV RL 94 RX6 yX6_reading wsX6_reading) := goodIn_app (goodIn_r _ [622, 623, 624, 5] (by decide +kernel) (by decide +kernel)) ggL_law_X6_reading
set_option maxRecDepth 20000 in
theorem ggL_law_X5_back : GoodIn wsL_law wsX5_back := goodIn_r _ [629, 24, 92, 824, 825, 826, 827, 828, 829, 830, 831, 832, 833, 877, 878, 879, 880, 881] (by decide +kernel) (by decide +kernel)
set_option maxRecDepth 20000 in
theorem gL_law_X5_back : GoodIn wsL_law (wsV RL 95 RX5 yX5_back wsX5_back) := goodIn_app (goodIn_r _ [626, 627, 628, 2] (by decide +kernel) (by decide +kernel)) ggL_law_X5_back
set_option maxRecDepth 20000 in
theorem ggL_law_X6_back : GoodIn wsL_law wsX6_back := goodIn_r _ [633, 234, 185, 186, 5, 187, 834, 835, 836, 837, 838, 839, 840, 841, 842, 843, 844, 845, 846, 847, 848, 849, 850, 851, 852, 853, 854, 855, 856, 857, 858, 859, 860, 861, 862, 863] (by decide +kernel) (by decide +kernel)
set_option maxRecDepth 20000 in
theorem gL_law_X6_back : GoodIn wsL_law (wsV RL 98 RX6 yX6_back wsX6_back) := goodIn_app (goodIn_r _ [630, 631, 632, 5] (by decide +kernel) (by decide +kernel)) ggL_law_X6_back
set_option maxRecDepth 20000 in
theorem ggL_law_X5_depths : GoodIn wsL_law wsX5_depths := goodIn_r _ [637, 15, 16, 240, 24, 241, 242, 243, 14, 244, 130, 170, 171, 172, 173, 131, 132, 38, 39, 40, 41, 43, 174, 127, 128, 129, 133, 134, 638, 639, 640, 23, 641, 621, 53, 51, 52, 54, 642, 258, 259, 260, 261, 262, 263, 264, 643, 266, 267, 268, 269, 270, 271, 272, 273, 274, 275, 276, 277, 246, 247, 248, 278, 279, 280, 824, 825, 826, 827, 828, 829, 830, 831, 832, 833, 864, 865, 866, 867, 868, 869, 870, 871, 872, 873, 877, 878, 879, 880, 881] (by decide +kernel) (by decide +kernel)
set_option maxRecDepth 20000 in
theorem gL_law_X5_depths : GoodIn wsL_law (wsV RL 99 RX5 yX5_depths wsX5_depths) := goodIn_app (goodIn_r _ [634, 635, 636, 2] (by decide +kernel) (by decide +kernel)) ggL_law_X5_depths
set_option maxRecDepth 20000 in
theorem ggL_law_X6_depths : GoodIn wsL_law wsX6_depths := goodIn_r _ [647, 74, 285, 286, 287, 5, 288, 231, 648, 649, 650, 651, 234, 84, 82, 83, 85, 293, 294, 295, 296, 297, 298, 299, 300, 230, 301, 302, 303, 304, 232, 75, 305, 306, 307, 289, 290, 291, 292, 73, 834, 835, 836, 837, 838, 839, 840, 841, 842, 843, 844, 845, 846, 847, 848, 849, 850, 851, 852, 853, 854, 855, 856, 857, 858, 859, 860, 861, 862, 863] (by decide +kernel) (by decide +kernel)
set_option maxRecDepth 20000 in
theorem gL_law_X6_depths : GoodIn wsL_law (wsV RL 102 RX6 yX6_depths wsX6_depths) := goodIn_app (goodIn_r _ [644, 645, 646, 5] (by decide +kernel) (by decide +kernel)) ggL_law_X6_depths
set_option maxRecDepth 20000 in
theorem ggL_law_X5_kinds : GoodIn wsL_law wsX5_kinds := goodIn_r _ [655, 15, 16, 239, 24, 241, 242, 243, 14, 244, 130, 170, 171, 172, 173, 131, 132, 38, 39, 40, 41, 43, 174, 127, 128, 129, 133, 134, 638, 639, 640, 23, 641, 621, 53, 51, 52, 54, 642, 258, 259, 260, 261, 262, 263, 264, 643, 266, 267, 268, 269, 270, 271, 272, 273, 274, 275, 276, 277, 246, 247, 248, 278, 279, 280, 824, 825, 826, 827, 828, 829, 830, 831, 832, 833, 864, 865, 866, 867, 868, 869, 870, 871, 872, 873, 877, 878, 879, 880, 881] (by decide +kernel) (by decide +kernel)
set_option maxRecDepth 20000 in
theorem gL_law_X5_kinds : GoodIn wsL_law (wsV RL 103 RX5 yX5_kinds wsX5_kinds) := goodIn_app (goodIn_r _ [652, 653, 654, 2] (by decide +kernel) (by decide +kernel)) ggL_law_X5_kinds
set_option maxRecDepth 20000 in
theorem ggL_law_X6_kinds : GoodIn wsL_law wsX6_kinds := goodIn_r _ [659, 73, 285, 286, 287, 5, 288, 231, 648, 649, 650, 651, 234, 84, 82, 83, 85, 293, 294, 295, 296, 297, 298, 299, 300, 230, 301, 302, 303, 304, 232, 75, 305, 306, 307, 289, 290, 291, 292, 74, 834, 835, 836, 837, 838, 839, 840, 841, 842, 843, 844, 845, 846, 847, 848, 849, 850, 851, 852, 853, 854, 855, 856, 857, 858, 859, 860, 861, 862, 863] (by decide +kernel) (by decide +kernel)
set_option maxRecDepth 20000 in
theorem gL_law_X6_kinds : GoodIn wsL_law (wsV RL 106 RX6 yX6_kinds wsX6_kinds) := goodIn_app (goodIn_r _ [656, 657, 658, 5] (by decide +kernel) (by decide +kernel)) ggL_law_X6_kinds
set_option maxRecDepth 20000 in
theorem ggL_law_X5_louds : GoodIn wsL_law wsX5_louds := goodIn_r _ [663, 15, 16, 312, 24, 315, 316, 317, 14, 318, 131, 170, 171, 172, 173, 130, 132, 38, 39, 40, 41, 43, 174, 127, 128, 129, 133, 134, 638, 639, 640, 23, 641, 621, 53, 51, 52, 54, 642, 258, 259, 260, 261, 262, 263, 264, 643, 266, 267, 268, 269, 270, 271, 272, 273, 274, 275, 276, 277, 246, 247, 248, 278, 279, 280, 824, 825, 826, 827, 828, 829, 830, 831, 832, 833, 864, 865, 866, 867, 868, 869, 870, 871, 872, 873, 877, 878, 879, 880, 881] (by decide +kernel) (by decide +kernel)
set_option maxRecDepth 20000 in
theorem gL_law_X5_louds : GoodIn wsL_law (wsV RL 107 RX5 yX5_louds wsX5_louds) := goodIn_app (goodIn_r _ [660, 661, 662, 2] (by decide +kernel) (by decide +kernel)) ggL_law_X5_louds
set_option maxRecDepth 20000 in
theorem ggL_law_X6_louds : GoodIn wsL_law wsX6_louds := goodIn_r _ [667, 75, 332, 333, 334, 5, 335, 181, 648, 649, 650, 651, 234, 84, 82, 83, 85, 293, 294, 295, 296, 297, 298, 299, 300, 230, 301, 302, 303, 304, 232, 305, 306, 307, 289, 290, 291, 292, 73, 74, 834, 835, 836, 837, 838, 839, 840, 841, 842, 843, 844, 845, 846, 847, 848, 849, 850, 851, 852, 853, 854, 855, 856, 857, 858, 859, 860, 861, 862, 863] (by decide +kernel) (by decide +kernel)
set_option maxRecDepth 20000 in
theorem gL_law_X6_louds : GoodIn wsL_law (wsV RL 110 RX6 yX6_louds wsX6_louds) := goodIn_app (goodIn_r _ [664, 665, 666, 5] (by decide +kernel) (by decide +kernel)) ggL_law_X6_louds
set_option maxRecDepth 20000 in
theorem ggL_law_X5_walls : GoodIn wsL_law wsX5_walls := goodIn_r _ [671, 15, 16, 364, 24, 365, 366, 367, 14, 368, 130, 170, 171, 172, 173, 131, 132, 38, 39, 40, 41, 43, 174, 127, 128, 129, 133, 134, 638, 639, 640, 23, 641, 621, 53, 51, 52, 54, 642, 258, 259, 260, 261, 262, 263, 264, 643, 266, 267, 268, 269, 270, 271, 272, 273, 274, 275, 276, 277, 246, 247, 248, 278, 279, 280, 824, 825, 826, 827, 828, 829, 830, 831, 832, 833, 864, 865, 866, 867, 868, 869, 870, 871, 872, 873, 877, 878, 879, 880, 881] (by decide +kernel) (by decide +kernel)
set_option maxRecDepth 20000 in
theorem gL_law_X5_walls : GoodIn wsL_law (wsV RL 111 RX5 yX5_walls wsX5_walls) := goodIn_app (goodIn_r _ [668, 669, 670, 2] (by decide +kernel) (by decide +kernel)) ggL_law_X5_walls
set_option maxRecDepth 20000 in
theorem ggL_law_X6_walls : GoodIn wsL_law wsX6_walls := goodIn_r _ [675, 231, 230, 648, 649, 650, 5, 651, 234, 84, 82, 83, 85, 293, 294, 295, 296, 297, 298, 299, 300, 301, 302, 303, 304, 232, 75, 305, 306, 307, 289, 290, 291, 292, 73, 74, 834, 835, 836, 837, 838, 839, 840, 841, 842, 843, 844, 845, 846, 847, 848, 849, 850, 851, 852, 853, 854, 855, 856, 857, 858, 859, 860, 861, 862, 863] (by decide +kernel) (by decide +kernel)
set_option maxRecDepth 20000 in
theorem gL_law_X6_walls : GoodIn wsL_law (wsV RL 114 RX6 yX6_walls wsX6_walls) := goodIn_app (goodIn_r _ [672, 673, 674, 5] (by decide +kernel) (by decide +kernel)) ggL_law_X6_walls
set_option maxRecDepth 20000 in
theorem ggL_law_X5_odds : GoodIn wsL_law wsX5_odds := goodIn_r _ [679, 15, 377, 93, 556, 241, 242, 243, 14, 244, 130, 319, 258, 259, 260, 43, 261, 262, 263, 264, 40, 607, 266, 267, 268, 269, 270, 271, 272, 132, 273, 274, 275, 276, 277, 246, 247, 248, 38, 39, 278, 279, 280, 680, 681, 2, 682, 824, 825, 826, 827, 828, 829, 830, 831, 832, 833, 864, 865, 866, 867, 868, 869, 870, 871, 872, 873] (by decide +kernel) (by decide +kernel)
set_option maxRecDepth 20000 in
theorem gL_law_X5_odds : GoodIn wsL_law (wsV RL 115 RX5 yX5_odds wsX5_odds) := goodIn_app (goodIn_r _ [676, 677, 678, 2] (by decide +kernel) (by decide +kernel)) ggL_law_X5_odds
set_option maxRecDepth 20000 in
theorem ggL_law_X6_odds : GoodIn wsL_law wsX6_odds := goodIn_r _ [686, 383, 181, 231, 285, 286, 287, 5, 288, 185, 186, 187, 293, 294, 295, 296, 297, 298, 299, 300, 230, 301, 302, 303, 304, 232, 75, 305, 306, 307, 289, 290, 291, 292, 73, 74, 687, 688, 689, 834, 835, 836, 837, 838, 839, 840, 841, 842, 843, 844, 845, 846, 847, 848, 849, 850, 851, 852, 853, 854, 855, 856, 857, 858, 859, 860, 861, 862, 863] (by decide +kernel) (by decide +kernel)
set_option maxRecDepth 20000 in
theorem gL_law_X6_odds : GoodIn wsL_law (wsV RL 118 RX6 yX6_odds wsX6_odds) := goodIn_app (goodIn_r _ [683, 684, 685, 5] (by decide +kernel) (by decide +kernel)) ggL_law_X6_odds
set_option maxRecDepth 20000 in
theorem ggL_law_X5_sheet : GoodIn wsL_law wsX5_sheet := goodIn_r _ [693, 90, 32, 94, 95, 2, 96, 97, 98, 99, 111, 112, 113, 114, 694, 695, 696, 31, 697, 104, 105, 110, 65, 698, 537, 538, 539, 824, 825, 826, 827, 828, 829, 830, 831, 832, 833, 885, 886, 887, 888] (by decide +kernel) (by decide +kernel)
set_option maxRecDepth 20000 in
theorem gL_law_X5_sheet : GoodIn wsL_law (wsV RL 119 RX5 yX5_sheet wsX5_sheet) := goodIn_app (goodIn_r _ [690, 691, 692, 2] (by decide +kernel) (by decide +kernel)) ggL_law_X5_sheet
set_option maxRecDepth 20000 in
theorem ggL_law_X6_sheet : GoodIn wsL_law wsX6_sheet := goodIn_r _ [702, 179, 70, 71, 72, 182, 183, 5, 184, 185, 186, 187, 188, 189, 190, 195, 196, 197, 198, 834, 835, 836, 837, 838, 839, 840, 841, 842, 843, 844, 845, 846, 847, 848, 849, 850, 851, 852, 853, 854, 855, 856, 857, 858, 859, 860, 861, 862, 863] (by decide +kernel) (by decide +kernel)
set_option maxRecDepth 20000 in
theorem gL_law_X6_sheet : GoodIn wsL_law (wsV RL 123 RX6 yX6_sheet wsX6_sheet) := goodIn_app (goodIn_r _ [699, 700, 701, 5] (by decide +kernel) (by decide +kernel)) ggL_law_X6_sheet
set_option maxRecDepth 20000 in
theorem ggL_law_X5_lose : GoodIn wsL_law wsX5_lose := goodIn_r _ [706, 32, 707, 94, 95, 2, 96, 824, 825, 826, 827, 828, 829, 830, 831, 832, 833, 885, 886, 887, 888] (by decide +kernel) (by decide +kernel)
set_option maxRecDepth 20000 in
theorem gL_law_X5_lose : GoodIn wsL_law (wsV RL 124 RX5 yX5_lose wsX5_lose) := goodIn_app (goodIn_r _ [703, 704, 705, 2] (by decide +kernel) (by decide +kernel)) ggL_law_X5_lose
set_option maxRecDepth 20000 in
theorem ggL_law_X6_lose : GoodIn wsL_law wsX6_lose := goodIn_r _ [711, 70, 182, 183, 5, 184, 185, 186, 187, 834, 835, 836, 837, 838, 839, 840, 841, 842, 843, 844, 845, 846, 847, 848, 849, 850, 851, 852, 853, 854, 855, 856, 857, 858, 859, 860, 861, 862, 863] (by decide +kernel) (by decide +kernel)
set_option maxRecDepth 20000 in
theorem gL_law_X6_lose : GoodIn wsL_law (wsV RL 127 RX6 yX6_lose wsX6_lose) := goodIn_app (goodIn_r _ [708, 709, 710, 5] (by decide +kernel) (by decide +kernel)) ggL_law_X6_lose
set_option maxRecDepth 20000 in
theorem ggL_law_X5_put : GoodIn wsL_law wsX5_put := goodIn_r _ [715, 90, 32, 707, 477, 94, 95, 2, 96, 111, 112, 113, 114, 106, 107, 108, 31, 109, 110, 716, 717, 718, 719, 105, 824, 825, 826, 827, 828, 829, 830, 831, 832, 833, 885, 886, 887, 888] (by decide +kernel) (by decide +kernel)
set_option maxRecDepth 20000 in
theorem gL_law_X5_put : GoodIn wsL_law (wsV RL 128 RX5 yX5_put wsX5_put) := goodIn_app (goodIn_r _ [712, 713, 714, 2] (by decide +kernel) (by decide +kernel)) ggL_law_X5_put
set_option maxRecDepth 20000 in
theorem ggL_law_X6_put : GoodIn wsL_law wsX6_put := goodIn_r _ [723, 179, 70, 71, 72, 182, 183, 5, 184, 185, 186, 187, 195, 196, 197, 198, 834, 835, 836, 837, 838, 839, 840, 841, 842, 843, 844, 845, 846, 847, 848, 849, 850, 851, 852, 853, 854, 855, 856, 857, 858, 859, 860, 861, 862, 863] (by decide +kernel) (by decide +kernel)
set_option maxRecDepth 20000 in
theorem gL_law_X6_put : GoodIn wsL_law (wsV RL 131 RX6 yX6_put wsX6_put) := goodIn_app (goodIn_r _ [720, 721, 722, 5] (by decide +kernel) (by decide +kernel)) ggL_law_X6_put
set_option maxRecDepth 20000 in
theorem ggL_law_X5_cell : GoodIn wsL_law wsX5_cell := goodIn_r _ [727, 90, 377, 32, 477, 94, 95, 2, 96, 97, 98, 99, 100, 101, 102, 31, 103, 104, 105, 106, 107, 108, 109, 110, 824, 825, 826, 827, 828, 829, 830, 831, 832, 833, 885, 886, 887, 888] (by decide +kernel) (by decide +kernel)
set_option maxRecDepth 20000 in
theorem gL_law_X5_cell : GoodIn wsL_law (wsV RL 132 RX5 yX5_cell wsX5_cell) := goodIn_app (goodIn_r _ [724, 725, 726, 2] (by decide +kernel) (by decide +kernel)) ggL_law_X5_cell
set_option maxRecDepth 20000 in
theorem ggL_law_X6_cell : GoodIn wsL_law wsX6_cell := goodIn_r _ [731, 179, 383, 70, 71, 72, 182, 183, 5, 184, 185, 186, 187, 188, 189, 190, 732, 733, 734, 735, 834, 835, 836, 837, 838, 839, 840, 841, 842, 843, 844, 845, 846, 847, 848, 849, 850, 851, 852, 853, 854, 855, 856, 857, 858, 859, 860, 861, 862, 863] (by decide +kernel) (by decide +kernel)
set_option maxRecDepth 20000 in
theorem gL_law_X6_cell : GoodIn wsL_law (wsV RL 136 RX6 yX6_cell wsX6_cell) := goodIn_app (goodIn_r _ [728, 729, 730, 5] (by decide +kernel) (by decide +kernel)) ggL_law_X6_cell
set_option maxRecDepth 20000 in
theorem ggL_law_X5_copy : GoodIn wsL_law wsX5_copy := goodIn_r _ [739, 90, 32, 707, 740, 477, 741, 121, 122, 123, 94, 95, 2, 96, 111, 112, 113, 114, 106, 107, 108, 31, 109, 110, 824, 825, 826, 827, 828, 829, 830, 831, 832, 833, 885, 886, 887, 888] (by decide +kernel) (by decide +kernel)
set_option maxRecDepth 20000 in
theorem gL_law_X5_copy : GoodIn wsL_law (wsV RL 137 RX5 yX5_copy wsX5_copy) := goodIn_app (goodIn_r _ [736, 737, 738, 2] (by decide +kernel) (by decide +kernel)) ggL_law_X5_copy
set_option maxRecDepth 20000 in
theorem ggL_law_X6_copy : GoodIn wsL_law wsX6_copy := goodIn_r _ [745, 179, 70, 71, 72, 182, 183, 5, 184, 185, 186, 187, 195, 196, 197, 198, 834, 835, 836, 837, 838, 839, 840, 841, 842, 843, 844, 845, 846, 847, 848, 849, 850, 851, 852, 853, 854, 855, 856, 857, 858, 859, 860, 861, 862, 863] (by decide +kernel) (by decide +kernel)
set_option maxRecDepth 20000 in
theorem gL_law_X6_copy : GoodIn wsL_law (wsV RL 140 RX6 yX6_copy wsX6_copy) := goodIn_app (goodIn_r _ [742, 743, 744, 5] (by decide +kernel) (by decide +kernel)) ggL_law_X6_copy
set_option maxRecDepth 20000 in
theorem ggL_law_X5_tell : GoodIn wsL_law wsX5_tell := goodIn_r _ [749, 15, 239, 241, 242, 243, 14, 244, 130, 750, 751, 752, 2, 753, 754, 755, 756, 757, 758, 759, 760, 761, 762, 240, 763, 764, 765, 766, 824, 825, 826, 827, 828, 829, 830, 831, 832, 833, 864, 865, 866, 867, 868, 869, 870, 871, 872, 873] (by decide +kernel) (by decide +kernel)
set_option maxRecDepth 20000 in
theorem gL_law_X5_tell : GoodIn wsL_law (wsV RL 141 RX5 yX5_tell wsX5_tell) := goodIn_app (goodIn_r _ [746, 747, 748, 2] (by decide +kernel) (by decide +kernel)) ggL_law_X5_tell
set_option maxRecDepth 20000 in
theorem ggL_law_X6_tell : GoodIn wsL_law wsX6_tell := goodIn_r _ [770, 74, 73, 285, 286, 287, 5, 288, 231, 771, 772, 773, 774, 775, 834, 835, 836, 837, 838, 839, 840, 841, 842, 843, 844, 845, 846, 847, 848, 849, 850, 851, 852, 853, 854, 855, 856, 857, 858, 859, 860, 861, 862, 863] (by decide +kernel) (by decide +kernel)
set_option maxRecDepth 20000 in
theorem gL_law_X6_tell : GoodIn wsL_law (wsV RL 144 RX6 yX6_tell wsX6_tell) := goodIn_app (goodIn_r _ [767, 768, 769, 5] (by decide +kernel) (by decide +kernel)) ggL_law_X6_tell
set_option maxRecDepth 20000 in
theorem ggL_law_X5_call : GoodIn wsL_law wsX5_call := goodIn_r _ [779, 15, 239, 241, 242, 243, 14, 244, 130, 780, 781, 782, 2, 783, 754, 755, 756, 757, 758, 784, 785, 786, 787, 824, 825, 826, 827, 828, 829, 830, 831, 832, 833, 864, 865, 866, 867, 868, 869, 870, 871, 872, 873] (by decide +kernel) (by decide +kernel)
set_option maxRecDepth 20000 in
theorem gL_law_X5_call : GoodIn wsL_law (wsV RL 145 RX5 yX5_call wsX5_call) := goodIn_app (goodIn_r _ [776, 777, 778, 2] (by decide +kernel) (by decide +kernel)) ggL_law_X5_call
set_option maxRecDepth 20000 in
theorem ggL_law_X6_call : GoodIn wsL_law wsX6_call := goodIn_r _ [791, 73, 285, 286, 287, 5, 288, 231, 771, 772, 773, 774, 775, 834, 835, 836, 837, 838, 839, 840, 841, 842, 843, 844, 845, 846, 847, 848, 849, 850, 851, 852, 853, 854, 855, 856, 857, 858, 859, 860, 861, 862, 863] (by decide +kernel) (by decide +kernel)
set_option maxRecDepth 20000 in
theorem gL_law_X6_call : GoodIn wsL_law (wsV RL 148 RX6 yX6_call wsX6_call) := goodIn_app (goodIn_r _ [788, 789, 790, 5] (by decide +kernel) (by decide +kernel)) ggL_law_X6_call
set_option maxRecDepth 20000 in
theorem ggL_law_X5_as : GoodIn wsL_law wsX5_as := goodIn_r _ [795, 90, 15, 239, 241, 242, 243, 14, 244, 130, 111, 112, 113, 2, 114, 824, 825, 826, 827, 828, 829, 830, 831, 832, 833, 864, 865, 866, 867, 868, 869, 870, 871, 872, 873] (by decide +kernel) (by decide +kernel)
set_option maxRecDepth 20000 in
theorem gL_law_X5_as : GoodIn wsL_law (wsV RL 149 RX5 yX5_as wsX5_as) := goodIn_app (goodIn_r _ [792, 793, 794, 2] (by decide +kernel) (by decide +kernel)) ggL_law_X5_as
set_option maxRecDepth 20000 in
theorem ggL_law_X6_as : GoodIn wsL_law wsX6_as := goodIn_r _ [799, 179, 73, 285, 286, 287, 5, 288, 231, 185, 186, 187, 195, 196, 197, 198, 834, 835, 836, 837, 838, 839, 840, 841, 842, 843, 844, 845, 846, 847, 848, 849, 850, 851, 852, 853, 854, 855, 856, 857, 858, 859, 860, 861, 862, 863] (by decide +kernel) (by decide +kernel)
set_option maxRecDepth 20000 in
theorem gL_law_X6_as : GoodIn wsL_law (wsV RL 152 RX6 yX6_as wsX6_as) := goodIn_app (goodIn_r _ [796, 797, 798, 5] (by decide +kernel) (by decide +kernel)) ggL_law_X6_as
set_option maxRecDepth 20000 in
theorem ggL_law_X5_trace : GoodIn wsL_law wsX5_trace := goodIn_r _ [803, 758, 824, 825, 826, 827, 828, 829, 830, 831, 832, 833] (by decide +kernel) (by decide +kernel)
set_option maxRecDepth 20000 in
theorem gL_law_X5_trace : GoodIn wsL_law (wsV RL 153 RX5 yX5_trace wsX5_trace) := goodIn_app (goodIn_r _ [800, 801, 802, 2] (by decide +kernel) (by decide +kernel)) ggL_law_X5_trace
set_option maxRecDepth 20000 in
theorem ggL_law_X6_trace : GoodIn wsL_law wsX6_trace := goodIn_r _ [807, 775, 834, 835, 836, 837, 838, 839, 840, 841, 842, 843, 844, 845, 846, 847, 848, 849, 850, 851, 852, 853, 854, 855, 856, 857, 858, 859, 860, 861, 862, 863] (by decide +kernel) (by decide +kernel)
set_option maxRecDepth 20000 in
theorem gL_law_X6_trace : GoodIn wsL_law (wsV RL 156 RX6 yX6_trace wsX6_trace) := goodIn_app (goodIn_r _ [804, 805, 806, 5] (by decide +kernel) (by decide +kernel)) ggL_law_X6_trace
set_option maxRecDepth 20000 in
theorem ggL_law_X5_fault : GoodIn wsL_law wsX5_fault := goodIn_r _ [811, 90, 824, 825, 826, 827, 828, 829, 830, 831, 832, 833] (by decide +kernel) (by decide +kernel)
set_option maxRecDepth 20000 in
theorem gL_law_X5_fault : GoodIn wsL_law (wsV RL 157 RX5 yX5_fault wsX5_fault) := goodIn_app (goodIn_r _ [808, 809, 810, 2] (by decide +kernel) (by decide +kernel)) ggL_law_X5_fault
set_option maxRecDepth 20000 in
theorem ggL_law_X6_fault : GoodIn wsL_law wsX6_fault := goodIn_r _ [815, 179, 834, 835, 836, 837, 838, 839, 840, 841, 842, 843, 844, 845, 846, 847, 848, 849, 850, 851, 852, 853, 854, 855, 856, 857, 858, 859, 860, 861, 862, 863] (by decide +kernel) (by decide +kernel)
set_option maxRecDepth 20000 in
theorem gL_law_X6_fault : GoodIn wsL_law (wsV RL 160 RX6 yX6_fault wsX6_fault) := goodIn_app (goodIn_r _ [812, 813, 814, 5] (by decide +kernel) (by decide +kernel)) ggL_law_X6_fault
set_option maxRecDepth 20000 in
theorem ggL_law_X5_many : GoodIn wsL_law wsX5_many := goodIn_r _ [819, 15, 556, 93, 364, 91, 24, 92, 824, 825, 826, 827, 828, 829, 830, 831, 832, 833, 864, 865, 866, 867, 868, 869, 870, 871, 872, 873, 877, 878, 879, 880, 881] (by decide +kernel) (by decide +kernel)
set_option maxRecDepth 20000 in
theorem gL_law_X5_many : GoodIn wsL_law (wsV RL 161 RX5 yX5_many wsX5_many) := goodIn_app (goodIn_r _ [816, 817, 818, 2] (by decide +kernel) (by decide +kernel)) ggL_law_X5_many
set_option maxRecDepth 20000 in
theorem ggL_law_X6_many : GoodIn wsL_law wsX6_many := goodIn_r _ [823, 231, 181, 230, 233, 234, 834, 835, 836, 837, 838, 839, 840, 841, 842, 843, 844, 845, 846, 847, 848, 849, 850, 851, 852, 853, 854, 855, 856, 857, 858, 859, 860, 861, 862, 863] (by decide +kernel) (by decide +kernel)
set_option maxRecDepth 20000 in
theorem gL_law_X6_many : GoodIn wsL_law (wsV RL 164 RX6 yX6_many wsX6_many) := goodIn_app (goodIn_r _ [820, 821, 822, 5] (by decide +kernel) (by decide +kernel)) ggL_law_X6_many
