set_option maxRecDepth 20000 in
theorem ggL_law_X5_init : GoodIn wsL_law wsX5_init := goodIn_r _ [8, 9, 10, 11, 12, 13, 14, 15, 16, 17, 18, 19, 20, 21, 22, 23, 24, 25, 26, 27, 28, 29, 30, 31, 32, 33, 34, 35, 36, 37, 38, 39, 40, 41, 42, 43, 44, 45, 46, 47, 48, 49, 50, 51, 52, 53, 54, 55, 56, 57, 58, 59, 60, 61, 62, 63, 64, 65, 864, 865, 866, 867, 868, 869, 870, 871, 872, 873, 824, 825, 826, 827, 828, 829, 830, 831, 832, 833, 874, 875, 876, 877, 878, 879, 880, 881, 882, 883, 884, 885, 886, 887, 888] (by decide +kernel) (by decide +kernel)
theorem gL_law_X5_init : GoodIn wsL_law (wsX5_init) := ggL_law_X5_init
set_option maxRecDepth 20000 in
theorem ggL_law_X6_init : GoodIn wsL_law wsX6_init := goodIn_r _ [68, 69, 10, 11, 33, 70, 71, 72, 73, 74, 75, 76, 77, 78, 79, 80, 81, 82, 83, 84, 85, 834, 835, 836, 837, 838, 839, 840, 841, 842, 843, 844, 845, 846, 847, 848, 849, 850, 851, 852, 853, 854, 855, 856, 857, 858, 859, 860, 861, 862, 863] (by decide +kernel) (by decide +kernel)
theorem gL_law_X6_init : GoodIn wsL_law (wsX6_init) := ggL_law_X6_init
set_option maxRecDepth 20000 in
theorem ggL_law_X5_street : GoodIn wsL_law wsX5_street := goodIn_r _ [89, 90, 32, 20, 16, 15, 91, 24, 92, 93, 94, 95, 2, 96, 97, 98, 99, 100, 101, 102, 31, 103, 104, 105, 106, 107, 108, 109, 110, 111, 112, 113, 114, 115, 116, 117, 19, 118, 119, 47, 120, 121, 122, 123, 124, 125, 126, 127, 128, 14, 129, 130, 131, 132, 133, 134, 135, 136, 137, 138, 139, 140, 141, 142, 143, 144, 145, 146, 147, 148, 149, 150, 151, 152, 153, 154, 155, 156, 157, 158, 159, 160, 38, 39, 161, 162, 163, 164, 165, 166, 167, 168, 169, 40, 41, 43, 170, 171, 172, 173, 174, 824, 825, 826, 827, 828, 829, 830, 831, 832, 833, 877, 878, 879, 880, 881, 864, 865, 866, 867, 868, 869, 870, 871, 872, 873, 885, 886, 887, 888, 874, 875, 876] (by decide +kernel) (by decide +kernel)
set_option maxRecDepth 20000 in
theorem gL_law_X5_street : GoodIn wsL_law (wsV RL 13 RX5 yX5_street wsX5_street) := goodIn_app (goodIn_r _ [86, 87, 88, 2] (by decide +kernel) (by decide +kernel)) ggL_law_X5_street
set_option maxRecDepth 20000 in
theorem ggL_law_X6_street : GoodIn wsL_law wsX6_street := goodIn_r _ [178, 179, 180, 181, 182, 183, 5, 184, 185, 186, 187, 188, 189, 190, 191, 192, 193, 194, 70, 71, 195, 196, 197, 198, 199, 200, 201, 202, 203, 204, 205, 206, 207, 208, 209, 210, 211, 212, 213, 72, 214, 215, 216, 217, 218, 219, 220, 221, 77, 222, 223, 224, 225, 78, 226, 227, 228, 229, 230, 231, 73, 74, 75, 76, 232, 233, 234, 834, 835, 836, 837, 838, 839, 840, 841, 842, 843, 844, 845, 846, 847, 848, 849, 850, 851, 852, 853, 854, 855, 856, 857, 858, 859, 860, 861, 862, 863] (by decide +kernel) (by decide +kernel)
set_option maxRecDepth 20000 in
theorem gL_law_X6_street : GoodIn wsL_law (wsV RL 17 RX6 yX6_street wsX6_street) := goodIn_app (goodIn_r _ [175, 176, 177, 5] (by decide +kernel) (by decide +kernel)) ggL_law_X6_street
set_option maxRecDepth 20000 in
theorem ggL_law_X5_ofHouse : GoodIn wsL_law wsX5_ofHouse := goodIn_r _ [238, 15, 239, 240, 241, 242, 243, 14, 244, 130, 245, 246, 247, 248, 38, 39, 249, 250, 251, 252, 131, 41, 253, 254, 255, 256, 257, 258, 259, 260, 43, 261, 262, 263, 264, 40, 265, 266, 267, 268, 269, 270, 271, 272, 132, 273, 274, 275, 276, 277, 278, 279, 280, 824, 825, 826, 827, 828, 829, 830, 831, 832, 833, 864, 865, 866, 867, 868, 869, 870, 871, 872, 873] (by decide +kernel) (by decide +kernel)
set_option maxRecDepth 20000 in
theorem gL_law_X5_ofHouse : GoodIn wsL_law (wsV RL 18 RX5 yX5_ofHouse wsX5_ofHouse) := goodIn_app (goodIn_r _ [235, 236, 237, 2] (by decide +kernel) (by decide +kernel)) ggL_law_X5_ofHouse
set_option maxRecDepth 20000 in
theorem ggL_law_X6_ofHouse : GoodIn wsL_law wsX6_ofHouse := goodIn_r _ [284, 73, 74, 181, 76, 285, 286, 287, 5, 288, 231, 185, 186, 187, 289, 290, 291, 292, 293, 294, 295, 296, 297, 298, 299, 300, 230, 301, 302, 303, 304, 232, 75, 305, 306, 307, 834, 835, 836, 837, 838, 839, 840, 841, 842, 843, 844, 845, 846, 847, 848, 849, 850, 851, 852, 853, 854, 855, 856, 857, 858, 859, 860, 861, 862, 863] (by decide +kernel) (by decide +kernel)
set_option maxRecDepth 20000 in
theorem gL_law_X6_ofHouse : GoodIn wsL_law (wsV RL 22 RX6 yX6_ofHouse wsX6_ofHouse) := goodIn_app (goodIn_r _ [281, 282, 283, 5] (by decide +kernel) (by decide +kernel)) ggL_law_X6_ofHouse
set_option maxRecDepth 20000 in
theorem ggL_law_X5_ofClock : GoodIn wsL_law wsX5_ofClock := goodIn_r _ [311, 15, 312, 313, 314, 315, 316, 317, 14, 318, 131, 319, 258, 259, 260, 43, 261, 262, 263, 264, 40, 320, 321, 322, 323, 130, 257, 265, 266, 267, 268, 269, 270, 271, 272, 132, 273, 274, 275, 276, 277, 246, 247, 248, 38, 39, 278, 279, 280, 324, 325, 326, 327, 824, 825, 826, 827, 828, 829, 830, 831, 832, 833, 864, 865, 866, 867, 868, 869, 870, 871, 872, 873] (by decide +kernel) (by decide +kernel)
set_option maxRecDepth 20000 in
theorem gL_law_X5_ofClock : GoodIn wsL_law (wsV RL 23 RX5 yX5_ofClock wsX5_ofClock) := goodIn_app (goodIn_r _ [308, 309, 310, 2] (by decide +kernel) (by decide +kernel)) ggL_law_X5_ofClock
set_option maxRecDepth 20000 in
theorem ggL_law_X6_ofClock : GoodIn wsL_law wsX6_ofClock := goodIn_r _ [331, 75, 76, 232, 332, 333, 334, 5, 335, 181, 301, 302, 303, 304, 305, 306, 307, 336, 337, 338, 339, 231, 293, 294, 295, 296, 297, 298, 299, 300, 230, 289, 290, 291, 292, 73, 74, 340, 341, 342, 343, 834, 835, 836, 837, 838, 839, 840, 841, 842, 843, 844, 845, 846, 847, 848, 849, 850, 851, 852, 853, 854, 855, 856, 857, 858, 859, 860, 861, 862, 863] (by decide +kernel) (by decide +kernel)
set_option maxRecDepth 20000 in
theorem gL_law_X6_ofClock : GoodIn wsL_law (wsV RL 26 RX6 yX6_ofClock wsX6_ofClock) := goodIn_app (goodIn_r _ [328, 329, 330, 5] (by decide +kernel) (by decide +kernel)) ggL_law_X6_ofClock
set_option maxRecDepth 20000 in
theorem ggL_law_X5_drowse : GoodIn wsL_law wsX5_drowse := goodIn_r _ [347, 15, 240, 241, 242, 243, 14, 244, 130, 824, 825, 826, 827, 828, 829, 830, 831, 832, 833, 864, 865, 866, 867, 868, 869, 870, 871, 872, 873] (by decide +kernel) (by decide +kernel)
set_option maxRecDepth 20000 in
theorem gL_law_X5_drowse : GoodIn wsL_law (wsV RL 27 RX5 yX5_drowse wsX5_drowse) := goodIn_app (goodIn_r _ [344, 345, 346, 2] (by decide +kernel) (by decide +kernel)) ggL_law_X5_drowse
set_option maxRecDepth 20000 in
theorem ggL_law_X6_drowse : GoodIn wsL_law wsX6_drowse := goodIn_r _ [351, 74, 285, 286, 287, 5, 288, 231, 185, 186, 187, 834, 835, 836, 837, 838, 839, 840, 841, 842, 843, 844, 845, 846, 847, 848, 849, 850, 851, 852, 853, 854, 855, 856, 857, 858, 859, 860, 861, 862, 863] (by decide +kernel) (by decide +kernel)
set_option maxRecDepth 20000 in
theorem gL_law_X6_drowse : GoodIn wsL_law (wsV RL 30 RX6 yX6_drowse wsX6_drowse) := goodIn_app (goodIn_r _ [348, 349, 350, 5] (by decide +kernel) (by decide +kernel)) ggL_law_X6_drowse
set_option maxRecDepth 20000 in
theorem ggL_law_X5_tune : GoodIn wsL_law wsX5_tune := goodIn_r _ [355, 15, 312, 315, 316, 317, 14, 318, 131, 824, 825, 826, 827, 828, 829, 830, 831, 832, 833, 864, 865, 866, 867, 868, 869, 870, 871, 872, 873] (by decide +kernel) (by decide +kernel)
set_option maxRecDepth 20000 in
theorem gL_law_X5_tune : GoodIn wsL_law (wsV RL 31 RX5 yX5_tune wsX5_tune) := goodIn_app (goodIn_r _ [352, 353, 354, 2] (by decide +kernel) (by decide +kernel)) ggL_law_X5_tune
set_option maxRecDepth 20000 in
theorem ggL_law_X6_tune : GoodIn wsL_law wsX6_tune := goodIn_r _ [359, 75, 332, 333, 334, 5, 335, 181, 185, 186, 187, 834, 835, 836, 837, 838, 839, 840, 841, 842, 843, 844, 845, 846, 847, 848, 849, 850, 851, 852, 853, 854, 855, 856, 857, 858, 859, 860, 861, 862, 863] (by decide +kernel) (by decide +kernel)
set_option maxRecDepth 20000 in
theorem gL_law_X6_tune : GoodIn wsL_law (wsV RL 34 RX6 yX6_tune wsX6_tune) := goodIn_app (goodIn_r _ [356, 357, 358, 5] (by decide +kernel) (by decide +kernel)) ggL_law_X6_tune
set_option maxRecDepth 20000 in
theorem ggL_law_X5_wall : GoodIn wsL_law wsX5_wall := goodIn_r _ [363, 15, 364, 365, 366, 367, 14, 368, 130, 824, 825, 826, 827, 828, 829, 830, 831, 832, 833, 864, 865, 866, 867, 868, 869, 870, 871, 872, 873] (by decide +kernel) (by decide +kernel)
set_option maxRecDepth 20000 in
theorem gL_law_X5_wall : GoodIn wsL_law (wsV RL 35 RX5 yX5_wall wsX5_wall) := goodIn_app (goodIn_r _ [360, 361, 362, 2] (by decide +kernel) (by decide +kernel)) ggL_law_X5_wall
set_option maxRecDepth 20000 in
theorem ggL_law_X6_wall : GoodIn wsL_law wsX6_wall := goodIn_r _ [372, 231, 230, 185, 186, 5, 187, 834, 835, 836, 837, 838, 839, 840, 841, 842, 843, 844, 845, 846, 847, 848, 849, 850, 851, 852, 853, 854, 855, 856, 857, 858, 859, 860, 861, 862, 863] (by decide +kernel) (by decide +kernel)
set_option maxRecDepth 20000 in
theorem gL_law_X6_wall : GoodIn wsL_law (wsV RL 39 RX6 yX6_wall wsX6_wall) := goodIn_app (goodIn_r _ [369, 370, 371, 5] (by decide +kernel) (by decide +kernel)) ggL_law_X6_wall
set_option maxRecDepth 20000 in
theorem ggL_law_X5_hears : GoodIn wsL_law wsX5_hears := goodIn_r _ [376, 15, 377, 313, 241, 242, 243, 14, 244, 130, 315, 316, 317, 318, 131, 319, 258, 259, 260, 43, 261, 262, 263, 264, 40, 378, 270, 271, 272, 132, 273, 274, 275, 276, 824, 825, 826, 827, 828, 829, 830, 831, 832, 833, 864, 865, 866, 867, 868, 869, 870, 871, 872, 873] (by decide +kernel) (by decide +kernel)
set_option maxRecDepth 20000 in
theorem gL_law_X5_hears : GoodIn wsL_law (wsV RL 40 RX5 yX5_hears wsX5_hears) := goodIn_app (goodIn_r _ [373, 374, 375, 2] (by decide +kernel) (by decide +kernel)) ggL_law_X5_hears
set_option maxRecDepth 20000 in
theorem ggL_law_X6_hears : GoodIn wsL_law wsX6_hears := goodIn_r _ [382, 76, 383, 285, 286, 287, 5, 288, 231, 332, 333, 334, 335, 181, 297, 298, 299, 300, 230, 301, 302, 303, 304, 232, 75, 305, 306, 307, 834, 835, 836, 837, 838, 839, 840, 841, 842, 843, 844, 845, 846, 847, 848, 849, 850, 851, 852, 853, 854, 855, 856, 857, 858, 859, 860, 861, 862, 863] (by decide +kernel) (by decide +kernel)
set_option maxRecDepth 20000 in
theorem gL_law_X6_hears : GoodIn wsL_law (wsV RL 44 RX6 yX6_hears wsX6_hears) := goodIn_app (goodIn_r _ [379, 380, 381, 5] (by decide +kernel) (by decide +kernel)) ggL_law_X6_hears
set_option maxRecDepth 20000 in
theorem ggL_law_X5_stroke : GoodIn wsL_law wsX5_stroke := goodIn_r _ [387, 15, 315, 316, 317, 14, 318, 131, 388, 389, 390, 391, 41, 134, 133, 392, 325, 326, 327, 130, 257, 258, 259, 260, 43, 261, 262, 263, 264, 40, 269, 270, 271, 272, 132, 273, 274, 275, 276, 277, 246, 247, 248, 38, 39, 278, 279, 280, 824, 825, 826, 827, 828, 829, 830, 831, 832, 833, 864, 865, 866, 867, 868, 869, 870, 871, 872, 873] (by decide +kernel) (by decide +kernel)
set_option maxRecDepth 20000 in
theorem gL_law_X5_stroke : GoodIn wsL_law (wsV RL 45 RX5 yX5_stroke wsX5_stroke) := goodIn_app (goodIn_r _ [384, 385, 386, 2] (by decide +kernel) (by decide +kernel)) ggL_law_X5_stroke
set_option maxRecDepth 20000 in
theorem ggL_law_X6_stroke : GoodIn wsL_law wsX6_stroke := goodIn_r _ [396, 332, 333, 334, 5, 335, 181, 397, 398, 399, 400, 76, 401, 402, 340, 341, 342, 343, 231, 293, 294, 295, 296, 297, 298, 299, 300, 230, 301, 302, 303, 304, 232, 75, 305, 306, 307, 289, 290, 291, 292, 73, 74, 834, 835, 836, 837, 838, 839, 840, 841, 842, 843, 844, 845, 846, 847, 848, 849, 850, 851, 852, 853, 854, 855, 856, 857, 858, 859, 860, 861, 862, 863] (by decide +kernel) (by decide +kernel)
set_option maxRecDepth 20000 in
theorem gL_law_X6_stroke : GoodIn wsL_law (wsV RL 48 RX6 yX6_stroke wsX6_stroke) := goodIn_app (goodIn_r _ [393, 394, 395, 5] (by decide +kernel) (by decide +kernel)) ggL_law_X6_stroke
set_option maxRecDepth 20000 in
theorem ggL_law_X5_nights : GoodIn wsL_law wsX5_nights := goodIn_r _ [406, 15, 16, 91, 93, 313, 365, 366, 367, 14, 368, 130, 170, 171, 172, 173, 131, 132, 38, 39, 40, 41, 43, 174, 127, 128, 129, 133, 134, 407, 408, 409, 410, 411, 389, 390, 391, 392, 325, 326, 327, 257, 258, 259, 260, 261, 262, 263, 264, 269, 270, 271, 272, 273, 274, 275, 276, 277, 246, 247, 248, 278, 279, 280, 824, 825, 826, 827, 828, 829, 830, 831, 832, 833, 864, 865, 866, 867, 868, 869, 870, 871, 872, 873] (by decide +kernel) (by decide +kernel)
set_option maxRecDepth 20000 in
theorem gL_law_X5_nights : GoodIn wsL_law (wsV RL 49 RX5 yX5_nights wsX5_nights) := goodIn_app (goodIn_r _ [403, 404, 405, 2] (by decide +kernel) (by decide +kernel)) ggL_law_X5_nights
set_option maxRecDepth 20000 in
theorem ggL_law_X6_nights : GoodIn wsL_law wsX6_nights := goodIn_r _ [415, 231, 233, 185, 186, 5, 187, 416, 417, 418, 419, 181, 79, 76, 420, 421, 422, 423, 397, 398, 399, 400, 401, 402, 340, 341, 342, 343, 293, 294, 295, 296, 297, 298, 299, 300, 230, 301, 302, 303, 304, 232, 75, 305, 306, 307, 289, 290, 291, 292, 73, 74, 424, 425, 426, 427, 834, 835, 836, 837, 838, 839, 840, 841, 842, 843, 844, 845, 846, 847, 848, 849, 850, 851, 852, 853, 854, 855, 856, 857, 858, 859, 860, 861, 862, 863] (by decide +kernel) (by decide +kernel)
set_option maxRecDepth 20000 in
theorem gL_law_X6_nights : GoodIn wsL_law (wsV RL 52 RX6 yX6_nights wsX6_nights) := goodIn_app (goodIn_r _ [412, 413, 414, 5] (by decide +kernel) (by decide +kernel)) ggL_law_X6_nights
set_option maxRecDepth 20000 in
theorem ggL_law_X5_stuff : GoodIn wsL_law wsX5_stuff := goodIn_r _ [431, 15, 314, 315, 316, 317, 14, 318, 131, 432, 433, 434, 435, 43, 436, 437, 438, 439, 440, 441, 442, 824, 825, 826, 827, 828, 829, 830, 831, 832, 833, 864, 865, 866, 867, 868, 869, 870, 871, 872, 873] (by decide +kernel) (by decide +kernel)
set_option maxRecDepth 20000 in
theorem gL_law_X5_stuff : GoodIn wsL_law (wsV RL 53 RX5 yX5_stuff wsX5_stuff) := goodIn_app (goodIn_r _ [428, 429, 430, 2] (by decide +kernel) (by decide +kernel)) ggL_law_X5_stuff
set_option maxRecDepth 20000 in
theorem ggL_law_X6_stuff : GoodIn wsL_law wsX6_stuff := goodIn_r _ [446, 232, 332, 333, 334, 5, 335, 181, 305, 306, 307, 447, 448, 449, 834, 835, 836, 837, 838, 839, 840, 841, 842, 843, 844, 845, 846, 847, 848, 849, 850, 851, 852, 853, 854, 855, 856, 857, 858, 859, 860, 861, 862, 863] (by decide +kernel) (by decide +kernel)
set_option maxRecDepth 20000 in
theorem gL_law_X6_stuff : GoodIn wsL_law (wsV RL 56 RX6 yX6_stuff wsX6_stuff) := goodIn_app (goodIn_r _ [443, 444, 445, 5] (by decide +kernel) (by decide +kernel)) ggL_law_X6_stuff
set_option maxRecDepth 20000 in
theorem ggL_law_X5_ease : GoodIn wsL_law wsX5_ease := goodIn_r _ [453, 15, 314, 315, 316, 317, 14, 318, 131, 432, 433, 434, 435, 43, 436, 437, 438, 439, 440, 441, 442, 824, 825, 826, 827, 828, 829, 830, 831, 832, 833, 864, 865, 866, 867, 868, 869, 870, 871, 872, 873] (by decide +kernel) (by decide +kernel)
set_option maxRecDepth 20000 in
theorem gL_law_X5_ease : GoodIn wsL_law (wsV RL 57 RX5 yX5_ease wsX5_ease) := goodIn_app (goodIn_r _ [450, 451, 452, 2] (by decide +kernel) (by decide +kernel)) ggL_law_X5_ease
set_option maxRecDepth 20000 in
theorem ggL_law_X6_ease : GoodIn wsL_law wsX6_ease := goodIn_r _ [457, 232, 332, 333, 334, 5, 335, 181, 305, 306, 307, 447, 448, 449, 834, 835, 836, 837, 838, 839, 840, 841, 842, 843, 844, 845, 846, 847, 848, 849, 850, 851, 852, 853, 854, 855, 856, 857, 858, 859, 860, 861, 862, 863] (by decide +kernel) (by decide +kernel)
set_option maxRecDepth 20000 in
theorem gL_law_X6_ease : GoodIn wsL_law (wsV RL 60 RX6 yX6_ease wsX6_ease) := goodIn_app (goodIn_r _ [454, 455, 456, 5] (by decide +kernel) (by decide +kernel)) ggL_law_X6_ease
set_option maxRecDepth 20000 in
theorem ggL_law_X5_carry : GoodIn wsL_law wsX5_carry := goodIn_r _ [461, 15, 313, 315, 316, 317, 14, 318, 131, 241, 242, 243, 244, 130, 824, 825, 826, 827, 828, 829, 830, 831, 832, 833, 864, 865, 866, 867, 868, 869, 870, 871, 872, 873] (by decide +kernel) (by decide +kernel)
set_option maxRecDepth 20000 in
theorem gL_law_X5_carry : GoodIn wsL_law (wsV RL 61 RX5 yX5_carry wsX5_carry) := goodIn_app (goodIn_r _ [458, 459, 460, 2] (by decide +kernel) (by decide +kernel)) ggL_law_X5_carry
set_option maxRecDepth 20000 in
theorem ggL_law_X6_carry : GoodIn wsL_law wsX6_carry := goodIn_r _ [465, 76, 332, 333, 334, 5, 335, 181, 285, 286, 287, 288, 231, 834, 835, 836, 837, 838, 839, 840, 841, 842, 843, 844, 845, 846, 847, 848, 849, 850, 851, 852, 853, 854, 855, 856, 857, 858, 859, 860, 861, 862, 863] (by decide +kernel) (by decide +kernel)
set_option maxRecDepth 20000 in
theorem gL_law_X6_carry : GoodIn wsL_law (wsV RL 64 RX6 yX6_carry wsX6_carry) := goodIn_app (goodIn_r _ [462, 463, 464, 5] (by decide +kernel) (by decide +kernel)) ggL_law_X6_carry
set_option maxRecDepth 20000 in
theorem ggL_law_X5_season : GoodIn wsL_law wsX5_season := goodIn_r _ [469, 90, 32, 15, 94, 95, 2, 96, 97, 98, 99, 470, 471, 472, 100, 101, 102, 31, 103, 104, 105, 106, 107, 108, 109, 110, 111, 112, 113, 114, 365, 366, 367, 14, 368, 130, 473, 474, 475, 476, 477, 478, 479, 480, 481, 315, 316, 317, 318, 131, 241, 242, 243, 244, 482, 483, 484, 485, 16, 170, 171, 172, 173, 132, 38, 39, 40, 41, 43, 174, 127, 128, 129, 133, 134, 486, 487, 488, 489, 388, 389, 390, 391, 392, 325, 326, 327, 257, 258, 259, 260, 261, 262, 263, 264, 269, 270, 271, 272, 273, 274, 275, 276, 277, 246, 247, 248, 278, 279, 280, 490, 491, 492, 493, 314, 407, 408, 409, 410, 411, 494, 495, 496, 497, 313, 498, 499, 500, 501, 502, 503, 432, 433, 434, 435, 504, 505, 506, 507, 824, 825, 826, 827, 828, 829, 830, 831, 832, 833, 885, 886, 887, 888, 864, 865, 866, 867, 868, 869, 870, 871, 872, 873] (by decide +kernel) (by decide +kernel)
set_option maxRecDepth 20000 in
theorem gL_law_X5_season : GoodIn wsL_law (wsV RL 65 RX5 yX5_season wsX5_season) := goodIn_app (goodIn_r _ [466, 467, 468, 2] (by decide +kernel) (by decide +kernel)) ggL_law_X5_season
set_option maxRecDepth 20000 in
theorem ggL_law_X6_season : GoodIn wsL_law wsX6_season := goodIn_r _ [511, 179, 231, 72, 232, 182, 183, 5, 184, 185, 186, 187, 188, 189, 190, 191, 192, 193, 194, 70, 71, 195, 196, 197, 198, 512, 513, 514, 515, 285, 286, 287, 288, 332, 333, 334, 335, 181, 416, 417, 418, 419, 79, 76, 516, 517, 518, 519, 402, 401, 520, 521, 522, 523, 420, 421, 422, 423, 397, 398, 399, 400, 340, 341, 342, 343, 293, 294, 295, 296, 297, 298, 299, 300, 230, 301, 302, 303, 304, 75, 305, 306, 307, 289, 290, 291, 292, 73, 74, 524, 525, 526, 527, 528, 529, 530, 531, 834, 835, 836, 837, 838, 839, 840, 841, 842, 843, 844, 845, 846, 847, 848, 849, 850, 851, 852, 853, 854, 855, 856, 857, 858, 859, 860, 861, 862, 863] (by decide +kernel) (by decide +kernel)
set_option maxRecDepth 20000 in
theorem gL_law_X6_season : GoodIn wsL_law (wsV RL 69 RX6 yX6_season wsX6_season) := goodIn_app (goodIn_r _ [508, 509, 510, 5] (by decide +kernel) (by decide +kernel)) ggL_law_X6_season
set_option maxRecDepth 20000 in
theorem ggL_law_X5_round : GoodIn wsL_law wsX5_round := goodIn_r _ [535, 15, 34, 313, 315, 316, 317, 14, 318, 131, 536, 537, 538, 539, 540, 541, 542, 543, 392, 325, 326, 327, 130, 257, 258, 259, 260, 43, 261, 262, 263, 264, 40, 269, 270, 271, 272, 132, 273, 274, 275, 276, 277, 246, 247, 248, 38, 39, 278, 279, 280, 824, 825, 826, 827, 828, 829, 830, 831, 832, 833, 864, 865, 866, 867, 868, 869, 870, 871, 872, 873] (by decide +kernel) (by decide +kernel)
set_option maxRecDepth 20000 in
theorem gL_law_X5_round : GoodIn wsL_law (wsV RL 70 RX5 yX5_round wsX5_round) := goodIn_app (goodIn_r _ [532, 533, 534, 2] (by decide +kernel) (by decide +kernel)) ggL_law_X5_round
set_option maxRecDepth 20000 in
theorem ggL_law_X6_round : GoodIn wsL_law wsX6_round := goodIn_r _ [547, 76, 231, 332, 333, 334, 5, 335, 181, 185, 186, 187, 548, 549, 550, 551, 340, 341, 342, 343, 293, 294, 295, 296, 297, 298, 299, 300, 230, 301, 302, 303, 304, 232, 75, 305, 306, 307, 289, 290, 291, 292, 73, 74, 834, 835, 836, 837, 838, 839, 840, 841, 842, 843, 844, 845, 846, 847, 848, 849, 850, 851, 852, 853, 854, 855, 856, 857, 858, 859, 860, 861, 862, 863] (by decide +kernel) (by decide +kernel)
set_option maxRecDepth 20000 in
theorem gL_law_X6_round : GoodIn wsL_law (wsV RL 73 RX6 yX6_round wsX6_round) := goodIn_app (goodIn_r _ [544, 545, 546, 5] (by decide +kernel) (by decide +kernel)) ggL_law_X6_round
set_option maxRecDepth 20000 in
theorem ggL_law_X5_from : GoodIn wsL_law wsX5_from := goodIn_r _ [555, 15, 556, 241, 242, 243, 14, 244, 130, 315, 316, 317, 318, 131, 324, 325, 326, 327, 257, 258, 259, 260, 43, 261, 262, 263, 264, 40, 269, 270, 271, 272, 132, 273, 274, 275, 276, 277, 246, 247, 248, 38, 39, 278, 279, 280, 824, 825, 826, 827, 828, 829, 830, 831, 832, 833, 864, 865, 866, 867, 868, 869, 870, 871, 872, 873] (by decide +kernel) (by decide +kernel)
set_option maxRecDepth 20000 in
theorem gL_law_X5_from : GoodIn wsL_law (wsV RL 74 RX5 yX5_from wsX5_from) := goodIn_app (goodIn_r _ [552, 553, 554, 2] (by decide +kernel) (by decide +kernel)) ggL_law_X5_from
set_option maxRecDepth 20000 in
theorem ggL_law_X6_from : GoodIn wsL_law wsX6_from := goodIn_r _ [560, 231, 285, 286, 287, 5, 288, 332, 333, 334, 335, 181, 340, 341, 342, 343, 293, 294, 295, 296, 297, 298, 299, 300, 230, 301, 302, 303, 304, 232, 75, 305, 306, 307, 289, 290, 291, 292, 73, 74, 834, 835, 836, 837, 838, 839, 840, 841, 842, 843, 844, 845, 846, 847, 848, 849, 850, 851, 852, 853, 854, 855, 856, 857, 858, 859, 860, 861, 862, 863] (by decide +kernel) (by decide +kernel)
set_option maxRecDepth 20000 in
theorem gL_law_X6_from : GoodIn wsL_law (wsV RL 77 RX6 yX6_from wsX6_from) := goodIn_app (goodIn_r _ [557, 558, 559, 5] (by decide +kernel) (by decide +kernel)) ggL_law_X6_from
set_option maxRecDepth 20000 in
theorem ggL_law_X5_settle : GoodIn wsL_law wsX5_settle := goodIn_r _ [564, 15, 16, 502, 365, 366, 367, 14, 368, 130, 170, 171, 172, 173, 131, 132, 38, 39, 40, 41, 43, 174, 127, 128, 129, 133, 134, 407, 408, 409, 410, 411, 389, 390, 391, 392, 325, 326, 327, 257, 258, 259, 260, 261, 262, 263, 264, 269, 270, 271, 272, 273, 274, 275, 276, 277, 246, 247, 248, 278, 279, 280, 824, 825, 826, 827, 828, 829, 830, 831, 832, 833, 864, 865, 866, 867, 868, 869, 870, 871, 872, 873] (by decide +kernel) (by decide +kernel)
set_option maxRecDepth 20000 in
theorem gL_law_X5_settle : GoodIn wsL_law (wsV RL 78 RX5 yX5_settle wsX5_settle) := goodIn_app (goodIn_r _ [561, 562, 563, 2] (by decide +kernel) (by decide +kernel)) ggL_law_X5_settle
set_option maxRecDepth 20000 in
theorem ggL_law_X6_settle : GoodIn wsL_law wsX6_settle := goodIn_r _ [568, 231, 416, 417, 418, 5, 419, 181, 79, 76, 569, 570, 571, 572, 80, 420, 421, 422, 423, 397, 398, 399, 400, 401, 402, 340, 341, 342, 343, 293, 294, 295, 296, 297, 298, 299, 300, 230, 301, 302, 303, 304, 232, 75, 305, 306, 307, 289, 290, 291, 292, 73, 74, 528, 529, 530, 531, 834, 835, 836, 837, 838, 839, 840, 841, 842, 843, 844, 845, 846, 847, 848, 849, 850, 851, 852, 853, 854, 855, 856, 857, 858, 859, 860, 861, 862, 863] (by decide +kernel) (by decide +kernel)
set_option maxRecDepth 20000 in
theorem gL_law_X6_settle : GoodIn wsL_law (wsV RL 82 RX6 yX6_settle wsX6_settle) := goodIn_app (goodIn_r _ [565, 566, 567, 5] (by decide +kernel) (by decide +kernel)) ggL_law_X6_settle
set_option maxRecDepth 20000 in
theorem ggL_law_X5_still : GoodIn wsL_law wsX5_still := goodIn_r _ [576, 15, 93, 28, 577, 365, 366, 367, 14, 368, 130, 578, 579, 580, 27, 581, 582, 583, 59, 61, 58, 584, 121, 122, 123, 585, 321, 322, 323, 257, 258, 259, 260, 43, 261, 262, 263, 264, 40, 265, 266, 267, 268, 269, 270, 271, 272, 132, 273, 274, 275, 276, 277, 246, 247, 248, 38, 39, 278, 279, 280, 586, 587, 588, 589, 590, 437, 438, 439, 440, 441, 442, 591, 592, 593, 594, 824, 825, 826, 827, 828, 829, 830, 831, 832, 833, 864, 865, 866, 867, 868, 869, 870, 871, 872, 873, 882, 883, 884] (by decide +kernel) (by decide +kernel)
set_option maxRecDepth 20000 in
theorem gL_law_X5_still : GoodIn wsL_law (wsV RL 83 RX5 yX5_still wsX5_still) := goodIn_app (goodIn_r _ [573, 574, 575, 2] (by decide +kernel) (by decide +kernel)) ggL_law_X5_still
set_option maxRecDepth 20000 in
theorem ggL_law_X6_still : GoodIn wsL_law wsX6_still := goodIn_r _ [598, 231, 181, 81, 185, 186, 5, 187, 599, 600, 601, 602, 336, 337, 338, 339, 293, 294, 295, 296, 297, 298, 299, 300, 230, 301, 302, 303, 304, 232, 75, 305, 306, 307, 289, 290, 291, 292, 73, 74, 447, 448, 449, 332, 333, 334, 335, 834, 835, 836, 837, 838, 839, 840, 841, 842, 843, 844, 845, 846, 847, 848, 849, 850, 851, 852, 853, 854, 855, 856, 857, 858, 859, 860, 861, 862, 863] (by decide +kernel) (by decide +kernel)
set_option maxRecDepth 20000 in
theorem gL_law_X6_still : GoodIn wsL_law (wsV RL 86 RX6 yX6_still wsX6_still) := goodIn_app (goodIn_r _ [595, 596, 597, 5] (by decide +kernel) (by decide +kernel)) ggL_law_X6_still
set_option maxRecDepth 20000 in
theorem ggL_law_X5_hush : GoodIn wsL_law wsX5_hush := goodIn_r _ [606, 15, 93, 313, 314, 241, 242, 243, 14, 244, 130, 319, 258, 259, 260, 43, 261, 262, 263, 264, 40, 607, 266, 267, 268, 269, 270, 271, 272, 132, 273, 274, 275, 276, 277, 246, 247, 248, 38, 39, 278, 279, 280, 608, 824, 825, 826, 827, 828, 829, 830, 831, 832, 833, 864, 865, 866, 867, 868, 869, 870, 871, 872, 873] (by decide +kernel) (by decide +kernel)
set_option maxRecDepth 20000 in
theorem gL_law_X5_hush : GoodIn wsL_law (wsV RL 87 RX5 yX5_hush wsX5_hush) := goodIn_app (goodIn_r _ [603, 604, 605, 2] (by decide +kernel) (by decide +kernel)) ggL_law_X5_hush
