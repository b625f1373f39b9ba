set_option maxRecDepth 20000 in
theorem ggL_law_X11_init : GoodIn wsL_law wsX11_init := goodIn_r _ [8, 9, 10, 11, 12, 13, 14, 15, 16, 17, 18, 19, 20, 21, 22, 23, 24, 25, 26, 27, 28, 29, 30, 31, 32, 33, 34, 35, 36, 37, 38, 39, 40, 41, 42, 43, 44, 45, 46, 47, 48, 49, 50, 51, 52, 53, 54, 55, 56, 57, 58, 59, 60, 61, 62, 63, 64, 65, 66, 67, 68, 69, 70, 71, 72, 73, 74, 75, 76, 77, 78, 79, 80, 81, 82, 83, 84, 85, 86, 87, 88, 89, 90, 91, 92, 93, 94, 95, 96, 97, 98, 99, 100, 101, 102, 103, 104, 105, 106, 107, 108, 109, 110, 111, 112, 113, 114, 115, 116, 117, 118, 119, 120, 121, 122, 123, 124, 125, 126, 127, 128, 129, 130, 131, 132, 133, 134, 135, 875, 876, 877, 878, 879, 838, 839, 840, 841, 842, 843, 844, 845, 846, 847, 848, 849, 880, 881, 882, 883, 884, 885, 886, 887, 888, 889, 890, 891, 892, 893, 894, 895, 896, 897, 898, 899, 900, 901, 902, 903, 904, 905, 906, 907, 908, 909, 910, 911, 912, 913, 914, 915] (by decide +kernel) (by decide +kernel)
set_option maxRecDepth 20000 in
theorem gL_law_X11_init : GoodIn wsL_law (wsX11_init) := ggL_law_X11_init
set_option maxRecDepth 20000 in
theorem ggL_law_X12_init : GoodIn wsL_law wsX12_init := goodIn_r _ [138, 139, 10, 11, 57, 140, 141, 142, 143, 144, 145, 113, 146, 147, 148, 149, 150, 151, 152, 153, 850, 851, 852, 853, 854, 855, 856, 857, 858, 859, 860, 861, 862, 863, 864, 865, 866, 867, 868, 869, 870, 871, 872, 873, 874] (by decide +kernel) (by decide +kernel)
set_option maxRecDepth 20000 in
theorem gL_law_X12_init : GoodIn wsL_law (wsX12_init) := ggL_law_X12_init
set_option maxRecDepth 20000 in
theorem ggL_law_X11_feed : GoodIn wsL_law wsX11_feed := goodIn_r _ [157, 158, 15, 159, 160, 161, 162, 163, 14, 164, 59, 58, 838, 839, 840, 841, 842, 843, 844, 845, 846, 847, 848, 849, 875, 876, 877, 878, 879] (by decide +kernel) (by decide +kernel)
set_option maxRecDepth 20000 in
theorem gL_law_X11_feed : GoodIn wsL_law (wsV RL 13 RX11 yX11_feed wsX11_feed) := goodIn_app (goodIn_of _ (by decide +kernel)) ggL_law_X11_feed
set_option maxRecDepth 20000 in
theorem ggL_law_X12_feed : GoodIn wsL_law wsX12_feed := goodIn_r _ [168, 169, 170, 171, 172, 147, 173, 174, 5, 175, 850, 851, 852, 853, 854, 855, 856, 857, 858, 859, 860, 861, 862, 863, 864, 865, 866, 867, 868, 869, 870, 871, 872, 873, 874] (by decide +kernel) (by decide +kernel)
set_option maxRecDepth 20000 in
theorem gL_law_X12_feed : GoodIn wsL_law (wsV RL 17 RX12 yX12_feed wsX12_feed) := goodIn_app (goodIn_of _ (by decide +kernel)) ggL_law_X12_feed
set_option maxRecDepth 20000 in
theorem ggL_law_X11_town : GoodIn wsL_law wsX11_town := goodIn_r _ [179, 15, 20, 180, 19, 24, 41, 33, 29, 181, 182, 183, 184, 14, 185, 62, 60, 61, 59, 186, 187, 188, 18, 189, 190, 191, 192, 193, 194, 195, 196, 197, 58, 198, 199, 200, 201, 202, 203, 204, 205, 206, 207, 208, 209, 210, 211, 212, 213, 214, 215, 216, 217, 218, 219, 220, 221, 222, 223, 224, 225, 226, 227, 228, 229, 230, 231, 232, 233, 234, 235, 236, 237, 238, 239, 240, 241, 242, 66, 67, 68, 69, 243, 244, 245, 246, 247, 248, 249, 250, 251, 252, 253, 254, 23, 255, 73, 74, 75, 76, 77, 256, 257, 258, 40, 259, 117, 118, 260, 261, 262, 32, 263, 103, 264, 265, 266, 28, 267, 85, 86, 838, 839, 840, 841, 842, 843, 844, 845, 846, 847, 848, 849, 875, 876, 877, 878, 879, 880, 881, 882, 883, 884, 885, 886, 887, 888, 889, 890, 891, 892, 900, 901, 902, 903, 904, 905, 896, 897, 898, 893, 894, 895] (by decide +kernel) (by decide +kernel)
set_option maxRecDepth 20000 in
theorem gL_law_X11_town : GoodIn wsL_law (wsV RL 18 RX11 yX11_town wsX11_town) := goodIn_app (goodIn_of _ (by decide +kernel)) ggL_law_X11_town
set_option maxRecDepth 20000 in
theorem ggL_law_X12_town : GoodIn wsL_law wsX12_town := goodIn_r _ [271, 141, 272, 148, 273, 171, 274, 275, 140, 276, 277, 278, 5, 279, 280, 281, 282, 283, 284, 285, 286, 287, 147, 173, 174, 175, 288, 289, 290, 291, 292, 293, 294, 295, 296, 297, 298, 299, 300, 301, 302, 303, 304, 305, 306, 307, 308, 309, 310, 311, 312, 313, 314, 142, 315, 316, 317, 146, 850, 851, 852, 853, 854, 855, 856, 857, 858, 859, 860, 861, 862, 863, 864, 865, 866, 867, 868, 869, 870, 871, 872, 873, 874] (by decide +kernel) (by decide +kernel)
set_option maxRecDepth 20000 in
theorem gL_law_X12_town : GoodIn wsL_law (wsV RL 22 RX12 yX12_town wsX12_town) := goodIn_app (goodIn_of _ (by decide +kernel)) ggL_law_X12_town
set_option maxRecDepth 20000 in
theorem ggL_law_X11_fault : GoodIn wsL_law wsX11_fault := goodIn_r _ [321, 15, 322, 838, 839, 840, 841, 842, 843, 844, 845, 846, 847, 848, 849, 875, 876, 877, 878, 879] (by decide +kernel) (by decide +kernel)
set_option maxRecDepth 20000 in
theorem gL_law_X11_fault : GoodIn wsL_law (wsV RL 23 RX11 yX11_fault wsX11_fault) := goodIn_app (goodIn_of _ (by decide +kernel)) ggL_law_X11_fault
set_option maxRecDepth 20000 in
theorem ggL_law_X12_fault : GoodIn wsL_law wsX12_fault := goodIn_r _ [326, 148, 850, 851, 852, 853, 854, 855, 856, 857, 858, 859, 860, 861, 862, 863, 864, 865, 866, 867, 868, 869, 870, 871, 872, 873, 874] (by decide +kernel) (by decide +kernel)
set_option maxRecDepth 20000 in
theorem gL_law_X12_fault : GoodIn wsL_law (wsV RL 26 RX12 yX12_fault wsX12_fault) := goodIn_app (goodIn_of _ (by decide +kernel)) ggL_law_X12_fault
set_option maxRecDepth 20000 in
theorem ggL_law_X11_told : GoodIn wsL_law wsX11_told := goodIn_r _ [330, 19, 331, 332, 181, 15, 159, 24, 333, 334, 335, 41, 336, 337, 29, 338, 158, 339, 340, 341, 2, 342, 343, 344, 345, 23, 346, 347, 73, 348, 349, 350, 351, 74, 838, 839, 840, 841, 842, 843, 844, 845, 846, 847, 848, 849, 880, 881, 882, 883, 884, 885, 886, 887, 875, 876, 877, 878, 879, 888, 889, 890, 891, 892, 900, 901, 902, 903, 904, 905, 893, 894, 895] (by decide +kernel) (by decide +kernel)
set_option maxRecDepth 20000 in
theorem gL_law_X11_told : GoodIn wsL_law (wsV RL 27 RX11 yX11_told wsX11_told) := goodIn_app (goodIn_of _ (by decide +kernel)) ggL_law_X11_told
set_option maxRecDepth 20000 in
theorem ggL_law_X12_told : GoodIn wsL_law wsX12_told := goodIn_r _ [355, 140, 171, 142, 316, 317, 315, 170, 356, 357, 358, 5, 359, 360, 361, 362, 363, 364, 365, 366, 850, 851, 852, 853, 854, 855, 856, 857, 858, 859, 860, 861, 862, 863, 864, 865, 866, 867, 868, 869, 870, 871, 872, 873, 874] (by decide +kernel) (by decide +kernel)
set_option maxRecDepth 20000 in
theorem gL_law_X12_told : GoodIn wsL_law (wsV RL 30 RX12 yX12_told wsX12_told) := goodIn_app (goodIn_of _ (by decide +kernel)) ggL_law_X12_told
set_option maxRecDepth 20000 in
theorem ggL_law_X11_house : GoodIn wsL_law wsX11_house := goodIn_r _ [370, 19, 371, 372, 373, 374, 24, 375, 376, 377, 158, 378, 236, 237, 18, 238, 193, 838, 839, 840, 841, 842, 843, 844, 845, 846, 847, 848, 849, 880, 881, 882, 883, 884, 885, 886, 887, 888, 889, 890, 891, 892] (by decide +kernel) (by decide +kernel)
set_option maxRecDepth 20000 in
theorem gL_law_X11_house : GoodIn wsL_law (wsV RL 31 RX11 yX11_house wsX11_house) := goodIn_app (goodIn_of _ (by decide +kernel)) ggL_law_X11_house
set_option maxRecDepth 20000 in
theorem ggL_law_X12_house : GoodIn wsL_law wsX12_house := goodIn_r _ [382, 383, 140, 142, 170, 384, 385, 386, 5, 387, 173, 174, 175, 388, 389, 390, 391, 850, 851, 852, 853, 854, 855, 856, 857, 858, 859, 860, 861, 862, 863, 864, 865, 866, 867, 868, 869, 870, 871, 872, 873, 874] (by decide +kernel) (by decide +kernel)
set_option maxRecDepth 20000 in
theorem gL_law_X12_house : GoodIn wsL_law (wsV RL 35 RX12 yX12_house wsX12_house) := goodIn_app (goodIn_of _ (by decide +kernel)) ggL_law_X12_house
set_option maxRecDepth 20000 in
theorem ggL_law_X11_day : GoodIn wsL_law wsX11_day := goodIn_r _ [395, 29, 24, 19, 396, 397, 398, 2, 399, 158, 400, 401, 333, 160, 402, 403, 404, 28, 405, 84, 85, 86, 406, 407, 93, 408, 409, 410, 411, 83, 412, 95, 413, 96, 414, 415, 416, 417, 418, 419, 420, 421, 422, 423, 424, 23, 425, 75, 426, 347, 427, 74, 73, 428, 429, 430, 431, 432, 77, 433, 434, 435, 436, 437, 438, 76, 343, 344, 345, 346, 838, 839, 840, 841, 842, 843, 844, 845, 846, 847, 848, 849, 880, 881, 882, 883, 884, 885, 886, 887, 888, 889, 890, 891, 892, 893, 894, 895, 914, 915] (by decide +kernel) (by decide +kernel)
set_option maxRecDepth 20000 in
theorem gL_law_X11_day : GoodIn wsL_law (wsV RL 36 RX11 yX11_day wsX11_day) := goodIn_app (goodIn_of _ (by decide +kernel)) ggL_law_X11_day
set_option maxRecDepth 20000 in
theorem ggL_law_X12_day : GoodIn wsL_law wsX12_day := goodIn_r _ [442, 142, 443, 444, 445, 5, 446, 447, 170, 140, 448, 172, 173, 174, 175, 449, 450, 451, 452, 315, 144, 308, 309, 310, 453, 454, 455, 456, 457, 356, 357, 358, 359, 458, 459, 460, 461, 462, 463, 464, 360, 361, 362, 850, 851, 852, 853, 854, 855, 856, 857, 858, 859, 860, 861, 862, 863, 864, 865, 866, 867, 868, 869, 870, 871, 872, 873, 874] (by decide +kernel) (by decide +kernel)
set_option maxRecDepth 20000 in
theorem gL_law_X12_day : GoodIn wsL_law (wsV RL 39 RX12 yX12_day wsX12_day) := goodIn_app (goodIn_of _ (by decide +kernel)) ggL_law_X12_day
set_option maxRecDepth 20000 in
theorem ggL_law_X11_pail : GoodIn wsL_law wsX11_pail := goodIn_r _ [468, 19, 371, 158, 24, 375, 372, 401, 29, 378, 236, 237, 18, 238, 193, 402, 403, 404, 28, 405, 84, 85, 86, 406, 407, 93, 408, 409, 410, 411, 83, 412, 95, 413, 96, 414, 415, 416, 417, 418, 419, 420, 421, 838, 839, 840, 841, 842, 843, 844, 845, 846, 847, 848, 849, 888, 889, 890, 891, 892, 880, 881, 882, 883, 884, 885, 886, 887, 893, 894, 895, 914, 915] (by decide +kernel) (by decide +kernel)
set_option maxRecDepth 20000 in
theorem gL_law_X11_pail : GoodIn wsL_law (wsV RL 40 RX11 yX11_pail wsX11_pail) := goodIn_app (goodIn_of _ (by decide +kernel)) ggL_law_X11_pail
