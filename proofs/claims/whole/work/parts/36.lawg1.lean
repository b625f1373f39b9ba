set_option maxRecDepth 20000 in
theorem ggL_law_X12_pail : GoodIn wsL_law wsX12_pail := goodIn_r _ [472, 383, 473, 170, 142, 140, 448, 384, 385, 386, 5, 387, 173, 174, 175, 449, 450, 451, 452, 315, 144, 308, 309, 310, 850, 851, 852, 853, 854, 855, 856, 857, 858, 859, 860, 861, 862, 863, 864, 865, 866, 867, 868, 869, 870, 871, 872, 873, 874] (by decide +kernel) (by decide +kernel)
set_option maxRecDepth 20000 in
theorem gL_law_X12_pail : GoodIn wsL_law (wsV RL 44 RX12 yX12_pail wsX12_pail) := goodIn_app (goodIn_of _ (by decide +kernel)) ggL_law_X12_pail
set_option maxRecDepth 20000 in
theorem ggL_law_X11_aunt : GoodIn wsL_law wsX11_aunt := goodIn_r _ [477, 19, 371, 158, 29, 24, 376, 378, 236, 237, 18, 238, 193, 402, 403, 404, 28, 405, 84, 85, 86, 406, 407, 93, 408, 409, 410, 411, 83, 412, 95, 413, 96, 414, 415, 416, 417, 418, 419, 420, 421, 838, 839, 840, 841, 842, 843, 844, 845, 846, 847, 848, 849, 888, 889, 890, 891, 892, 880, 881, 882, 883, 884, 885, 886, 887, 893, 894, 895, 914, 915] (by decide +kernel) (by decide +kernel)
set_option maxRecDepth 20000 in
theorem gL_law_X11_aunt : GoodIn wsL_law (wsV RL 45 RX11 yX11_aunt wsX11_aunt) := goodIn_app (goodIn_of _ (by decide +kernel)) ggL_law_X11_aunt
set_option maxRecDepth 20000 in
theorem ggL_law_X12_aunt : GoodIn wsL_law wsX12_aunt := goodIn_r _ [481, 383, 482, 170, 142, 384, 385, 386, 5, 387, 140, 173, 174, 175, 449, 450, 451, 452, 315, 144, 308, 309, 310, 850, 851, 852, 853, 854, 855, 856, 857, 858, 859, 860, 861, 862, 863, 864, 865, 866, 867, 868, 869, 870, 871, 872, 873, 874] (by decide +kernel) (by decide +kernel)
set_option maxRecDepth 20000 in
theorem gL_law_X12_aunt : GoodIn wsL_law (wsV RL 48 RX12 yX12_aunt wsX12_aunt) := goodIn_app (goodIn_of _ (by decide +kernel)) ggL_law_X12_aunt
set_option maxRecDepth 20000 in
theorem ggL_law_X11_hour : GoodIn wsL_law wsX11_hour := goodIn_r _ [486, 158, 19, 400, 401, 29, 24, 339, 340, 341, 2, 342, 333, 331, 402, 403, 404, 28, 405, 84, 85, 86, 406, 407, 93, 408, 409, 410, 411, 83, 412, 95, 413, 96, 414, 415, 416, 417, 418, 419, 420, 421, 487, 488, 489, 23, 490, 347, 491, 73, 433, 492, 493, 236, 237, 18, 238, 193, 428, 429, 430, 431, 432, 77, 434, 435, 436, 437, 438, 76, 343, 344, 345, 346, 838, 839, 840, 841, 842, 843, 844, 845, 846, 847, 848, 849, 880, 881, 882, 883, 884, 885, 886, 887, 888, 889, 890, 891, 892, 893, 894, 895, 914, 915] (by decide +kernel) (by decide +kernel)
set_option maxRecDepth 20000 in
theorem gL_law_X11_hour : GoodIn wsL_law (wsV RL 49 RX11 yX11_hour wsX11_hour) := goodIn_app (goodIn_of _ (by decide +kernel)) ggL_law_X11_hour
set_option maxRecDepth 20000 in
theorem ggL_law_X12_hour : GoodIn wsL_law wsX12_hour := goodIn_r _ [497, 447, 170, 140, 142, 448, 173, 174, 5, 175, 356, 357, 358, 359, 449, 450, 451, 452, 315, 144, 308, 309, 310, 498, 499, 500, 501, 151, 457, 462, 463, 464, 458, 459, 460, 461, 360, 361, 362, 850, 851, 852, 853, 854, 855, 856, 857, 858, 859, 860, 861, 862, 863, 864, 865, 866, 867, 868, 869, 870, 871, 872, 873, 874] (by decide +kernel) (by decide +kernel)
set_option maxRecDepth 20000 in
theorem gL_law_X12_hour : GoodIn wsL_law (wsV RL 52 RX12 yX12_hour wsX12_hour) := goodIn_app (goodIn_of _ (by decide +kernel)) ggL_law_X12_hour
set_option maxRecDepth 20000 in
theorem ggL_law_X11_drift : GoodIn wsL_law wsX11_drift := goodIn_r _ [505, 29, 24, 19, 396, 397, 398, 2, 399, 158, 400, 401, 333, 160, 402, 403, 404, 28, 405, 84, 85, 86, 406, 407, 93, 408, 409, 410, 411, 83, 412, 95, 413, 96, 414, 415, 416, 417, 418, 419, 420, 421, 506, 507, 508, 509, 181, 37, 376, 510, 511, 512, 36, 513, 108, 514, 515, 516, 517, 378, 236, 237, 18, 238, 193, 422, 423, 424, 23, 425, 75, 426, 347, 427, 74, 73, 428, 429, 430, 431, 432, 77, 433, 434, 435, 436, 437, 438, 76, 343, 344, 345, 346, 838, 839, 840, 841, 842, 843, 844, 845, 846, 847, 848, 849, 880, 881, 882, 883, 884, 885, 886, 887, 888, 889, 890, 891, 892, 893, 894, 895, 914, 915, 899] (by decide +kernel) (by decide +kernel)
set_option maxRecDepth 20000 in
theorem gL_law_X11_drift : GoodIn wsL_law (wsV RL 53 RX11 yX11_drift wsX11_drift) := goodIn_app (goodIn_of _ (by decide +kernel)) ggL_law_X11_drift
set_option maxRecDepth 20000 in
theorem ggL_law_X12_drift : GoodIn wsL_law wsX12_drift := goodIn_r _ [521, 140, 142, 443, 444, 445, 5, 446, 447, 170, 448, 172, 173, 174, 175, 449, 450, 451, 452, 315, 144, 308, 309, 310, 522, 523, 524, 525, 526, 527, 528, 529, 530, 453, 454, 455, 456, 457, 356, 357, 358, 359, 458, 459, 460, 461, 462, 463, 464, 360, 361, 362, 850, 851, 852, 853, 854, 855, 856, 857, 858, 859, 860, 861, 862, 863, 864, 865, 866, 867, 868, 869, 870, 871, 872, 873, 874] (by decide +kernel) (by decide +kernel)
set_option maxRecDepth 20000 in
theorem gL_law_X12_drift : GoodIn wsL_law (wsV RL 56 RX12 yX12_drift wsX12_drift) := goodIn_app (goodIn_of _ (by decide +kernel)) ggL_law_X12_drift
set_option maxRecDepth 20000 in
theorem ggL_law_X11_undo : GoodIn wsL_law wsX11_undo := goodIn_r _ [534, 158, 29, 24, 333, 401, 535, 536, 537, 28, 538, 86, 85, 84, 539, 540, 541, 83, 542, 95, 96, 413, 414, 415, 416, 417, 418, 419, 420, 421, 838, 839, 840, 841, 842, 843, 844, 845, 846, 847, 848, 849, 888, 889, 890, 891, 892, 893, 894, 895, 914, 915] (by decide +kernel) (by decide +kernel)
set_option maxRecDepth 20000 in
theorem gL_law_X11_undo : GoodIn wsL_law (wsV RL 57 RX11 yX11_undo wsX11_undo) := goodIn_app (goodIn_of _ (by decide +kernel)) ggL_law_X11_undo
set_option maxRecDepth 20000 in
theorem ggL_law_X12_undo : GoodIn wsL_law wsX12_undo := goodIn_r _ [546, 447, 170, 315, 448, 144, 142, 173, 174, 5, 175, 308, 309, 310, 850, 851, 852, 853, 854, 855, 856, 857, 858, 859, 860, 861, 862, 863, 864, 865, 866, 867, 868, 869, 870, 871, 872, 873, 874] (by decide +kernel) (by decide +kernel)
set_option maxRecDepth 20000 in
theorem gL_law_X12_undo : GoodIn wsL_law (wsV RL 60 RX12 yX12_undo wsX12_undo) := goodIn_app (goodIn_of _ (by decide +kernel)) ggL_law_X12_undo
set_option maxRecDepth 20000 in
theorem ggL_law_X11_level : GoodIn wsL_law wsX11_level := goodIn_r _ [550, 19, 371, 158, 25, 375, 378, 236, 237, 18, 238, 193, 551, 552, 553, 2, 554, 24, 334, 555, 556, 557, 23, 558, 73, 559, 415, 416, 417, 74, 75, 76, 77, 422, 423, 424, 425, 426, 347, 427, 428, 429, 430, 431, 432, 433, 407, 93, 408, 434, 435, 436, 437, 438, 838, 839, 840, 841, 842, 843, 844, 845, 846, 847, 848, 849, 888, 889, 890, 891, 892, 880, 881, 882, 883, 884, 885, 886, 887] (by decide +kernel) (by decide +kernel)
set_option maxRecDepth 20000 in
theorem gL_law_X11_level : GoodIn wsL_law (wsV RL 61 RX11 yX11_level wsX11_level) := goodIn_app (goodIn_of _ (by decide +kernel)) ggL_law_X11_level
set_option maxRecDepth 20000 in
theorem ggL_law_X12_level : GoodIn wsL_law wsX12_level := goodIn_r _ [563, 383, 482, 170, 143, 384, 385, 386, 5, 387, 140, 173, 174, 175, 564, 565, 566, 567, 568, 569, 570, 571, 142, 308, 309, 310, 453, 454, 455, 456, 457, 356, 357, 358, 359, 458, 459, 460, 461, 462, 463, 464, 850, 851, 852, 853, 854, 855, 856, 857, 858, 859, 860, 861, 862, 863, 864, 865, 866, 867, 868, 869, 870, 871, 872, 873, 874] (by decide +kernel) (by decide +kernel)
set_option maxRecDepth 20000 in
theorem gL_law_X12_level : GoodIn wsL_law (wsV RL 64 RX12 yX12_level wsX12_level) := goodIn_app (goodIn_of _ (by decide +kernel)) ggL_law_X12_level
set_option maxRecDepth 20000 in
theorem ggL_law_X11_spills : GoodIn wsL_law wsX11_spills := goodIn_r _ [575, 158, 25, 334, 551, 552, 553, 2, 554, 24, 19, 555, 556, 557, 23, 558, 73, 559, 415, 416, 417, 74, 75, 76, 77, 422, 423, 424, 425, 426, 347, 427, 428, 429, 430, 431, 432, 433, 407, 93, 408, 434, 435, 436, 437, 438, 838, 839, 840, 841, 842, 843, 844, 845, 846, 847, 848, 849, 888, 889, 890, 891, 892, 880, 881, 882, 883, 884, 885, 886, 887] (by decide +kernel) (by decide +kernel)
set_option maxRecDepth 20000 in
theorem gL_law_X11_spills : GoodIn wsL_law (wsV RL 65 RX11 yX11_spills wsX11_spills) := goodIn_app (goodIn_of _ (by decide +kernel)) ggL_law_X11_spills
set_option maxRecDepth 20000 in
theorem ggL_law_X12_spills : GoodIn wsL_law wsX12_spills := goodIn_r _ [579, 482, 170, 143, 173, 174, 5, 175, 564, 565, 566, 567, 568, 569, 570, 571, 142, 308, 309, 310, 453, 454, 455, 456, 140, 457, 356, 357, 358, 359, 458, 459, 460, 461, 462, 463, 464, 850, 851, 852, 853, 854, 855, 856, 857, 858, 859, 860, 861, 862, 863, 864, 865, 866, 867, 868, 869, 870, 871, 872, 873, 874] (by decide +kernel) (by decide +kernel)
set_option maxRecDepth 20000 in
theorem gL_law_X12_spills : GoodIn wsL_law (wsV RL 68 RX12 yX12_spills wsX12_spills) := goodIn_app (goodIn_of _ (by decide +kernel)) ggL_law_X12_spills
set_option maxRecDepth 20000 in
theorem ggL_law_X11_fewest : GoodIn wsL_law wsX11_fewest := goodIn_r _ [583, 19, 181, 584, 585, 586, 2, 587, 331, 24, 333, 588, 92, 93, 94, 589, 590, 591, 592, 593, 594, 595, 596, 597, 598, 599, 374, 377, 600, 601, 602, 603, 372, 375, 373, 838, 839, 840, 841, 842, 843, 844, 845, 846, 847, 848, 849, 880, 881, 882, 883, 884, 885, 886, 887, 888, 889, 890, 891, 892] (by decide +kernel) (by decide +kernel)
set_option maxRecDepth 20000 in
theorem gL_law_X11_fewest : GoodIn wsL_law (wsV RL 69 RX11 yX11_fewest wsX11_fewest) := goodIn_app (goodIn_of _ (by decide +kernel)) ggL_law_X11_fewest
set_option maxRecDepth 20000 in
theorem ggL_law_X12_fewest : GoodIn wsL_law wsX12_fewest := goodIn_r _ [607, 140, 608, 609, 5, 610, 611, 612, 613, 614, 142, 615, 616, 617, 618, 356, 357, 358, 359, 388, 389, 390, 391, 619, 620, 621, 850, 851, 852, 853, 854, 855, 856, 857, 858, 859, 860, 861, 862, 863, 864, 865, 866, 867, 868, 869, 870, 871, 872, 873, 874] (by decide +kernel) (by decide +kernel)
set_option maxRecDepth 20000 in
theorem gL_law_X12_fewest : GoodIn wsL_law (wsV RL 72 RX12 yX12_fewest wsX12_fewest) := goodIn_app (goodIn_of _ (by decide +kernel)) ggL_law_X12_fewest
