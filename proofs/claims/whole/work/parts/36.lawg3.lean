set_option maxRecDepth 20000 in
theorem ggL_law_X12_lookAt : GoodIn wsL_law wsX12_lookAt := goodIn_r _ [762, 140, 763, 752, 753, 5, 754, 316, 149, 388, 389, 390, 391, 608, 609, 610, 462, 463, 464, 850, 851, 852, 853, 854, 855, 856, 857, 858, 859, 860, 861, 862, 863, 864, 865, 866, 867, 868, 869, 870, 871, 872, 873, 874] (by decide +kernel) (by decide +kernel)
set_option maxRecDepth 20000 in
theorem gL_law_X12_lookAt : GoodIn wsL_law (wsV RL 105 RX12 yX12_lookAt wsX12_lookAt) := goodIn_app (goodIn_of _ (by decide +kernel)) ggL_law_X12_lookAt
set_option maxRecDepth 20000 in
theorem ggL_law_X11_write : GoodIn wsL_law wsX11_write := goodIn_r _ [767, 19, 371, 158, 41, 337, 160, 378, 236, 237, 18, 238, 193, 768, 769, 770, 40, 771, 118, 115, 116, 838, 839, 840, 841, 842, 843, 844, 845, 846, 847, 848, 849, 900, 901, 902, 903, 904, 905, 880, 881, 882, 883, 884, 885, 886, 887] (by decide +kernel) (by decide +kernel)
set_option maxRecDepth 20000 in
theorem gL_law_X11_write : GoodIn wsL_law (wsV RL 106 RX11 yX11_write wsX11_write) := goodIn_app (goodIn_of _ (by decide +kernel)) ggL_law_X11_write
set_option maxRecDepth 20000 in
theorem ggL_law_X12_write : GoodIn wsL_law wsX12_write := goodIn_r _ [775, 383, 473, 170, 317, 172, 150, 384, 385, 386, 5, 387, 140, 173, 174, 175, 850, 851, 852, 853, 854, 855, 856, 857, 858, 859, 860, 861, 862, 863, 864, 865, 866, 867, 868, 869, 870, 871, 872, 873, 874] (by decide +kernel) (by decide +kernel)
set_option maxRecDepth 20000 in
theorem gL_law_X12_write : GoodIn wsL_law (wsV RL 109 RX12 yX12_write wsX12_write) := goodIn_app (goodIn_of _ (by decide +kernel)) ggL_law_X12_write
set_option maxRecDepth 20000 in
theorem ggL_law_X11_judge : GoodIn wsL_law wsX11_judge := goodIn_r _ [779, 41, 19, 24, 780, 781, 782, 40, 783, 118, 115, 784, 116, 750, 236, 237, 18, 238, 193, 838, 839, 840, 841, 842, 843, 844, 845, 846, 847, 848, 849, 900, 901, 902, 903, 904, 905, 888, 889, 890, 891, 892, 880, 881, 882, 883, 884, 885, 886, 887] (by decide +kernel) (by decide +kernel)
set_option maxRecDepth 20000 in
theorem gL_law_X11_judge : GoodIn wsL_law (wsV RL 110 RX11 yX11_judge wsX11_judge) := goodIn_app (goodIn_of _ (by decide +kernel)) ggL_law_X11_judge
set_option maxRecDepth 20000 in
theorem ggL_law_X12_judge : GoodIn wsL_law wsX12_judge := goodIn_r _ [788, 317, 142, 150, 850, 851, 852, 853, 854, 855, 856, 857, 858, 859, 860, 861, 862, 863, 864, 865, 866, 867, 868, 869, 870, 871, 872, 873, 874] (by decide +kernel) (by decide +kernel)
set_option maxRecDepth 20000 in
theorem gL_law_X12_judge : GoodIn wsL_law (wsV RL 113 RX12 yX12_judge wsX12_judge) := goodIn_app (goodIn_of _ (by decide +kernel)) ggL_law_X12_judge
set_option maxRecDepth 20000 in
theorem ggL_law_X11_tear : GoodIn wsL_law wsX11_tear := goodIn_r _ [792, 41, 336, 337, 256, 257, 258, 40, 259, 117, 118, 838, 839, 840, 841, 842, 843, 844, 845, 846, 847, 848, 849, 900, 901, 902, 903, 904, 905] (by decide +kernel) (by decide +kernel)
set_option maxRecDepth 20000 in
theorem gL_law_X11_tear : GoodIn wsL_law (wsV RL 114 RX11 yX11_tear wsX11_tear) := goodIn_app (goodIn_of _ (by decide +kernel)) ggL_law_X11_tear
set_option maxRecDepth 20000 in
theorem ggL_law_X12_tear : GoodIn wsL_law wsX12_tear := goodIn_r _ [796, 316, 317, 850, 851, 852, 853, 854, 855, 856, 857, 858, 859, 860, 861, 862, 863, 864, 865, 866, 867, 868, 869, 870, 871, 872, 873, 874] (by decide +kernel) (by decide +kernel)
set_option maxRecDepth 20000 in
theorem gL_law_X12_tear : GoodIn wsL_law (wsV RL 117 RX12 yX12_tear wsX12_tear) := goodIn_app (goodIn_of _ (by decide +kernel)) ggL_law_X12_tear
set_option maxRecDepth 20000 in
theorem ggL_law_X11_seed : GoodIn wsL_law wsX11_seed := goodIn_r _ [800, 158, 37, 801, 838, 839, 840, 841, 842, 843, 844, 845, 846, 847, 848, 849, 899] (by decide +kernel) (by decide +kernel)
set_option maxRecDepth 20000 in
theorem gL_law_X11_seed : GoodIn wsL_law (wsV RL 118 RX11 yX11_seed wsX11_seed) := goodIn_app (goodIn_of _ (by decide +kernel)) ggL_law_X11_seed
set_option maxRecDepth 20000 in
theorem ggL_law_X12_seed : GoodIn wsL_law wsX12_seed := goodIn_r _ [805, 170, 526, 850, 851, 852, 853, 854, 855, 856, 857, 858, 859, 860, 861, 862, 863, 864, 865, 866, 867, 868, 869, 870, 871, 872, 873, 874] (by decide +kernel) (by decide +kernel)
set_option maxRecDepth 20000 in
theorem gL_law_X12_seed : GoodIn wsL_law (wsV RL 121 RX12 yX12_seed wsX12_seed) := goodIn_app (goodIn_of _ (by decide +kernel)) ggL_law_X12_seed
set_option maxRecDepth 20000 in
theorem ggL_law_X11_keep : GoodIn wsL_law wsX11_keep := goodIn_r _ [809, 33, 371, 24, 37, 29, 810, 811, 812, 32, 813, 814, 815, 816, 817, 101, 102, 818, 103, 819, 820, 410, 411, 83, 412, 95, 413, 96, 414, 415, 416, 417, 418, 419, 420, 421, 264, 265, 266, 28, 267, 85, 86, 838, 839, 840, 841, 842, 843, 844, 845, 846, 847, 848, 849, 896, 897, 898, 899, 914, 915, 888, 889, 890, 891, 892, 893, 894, 895] (by decide +kernel) (by decide +kernel)
set_option maxRecDepth 20000 in
theorem gL_law_X11_keep : GoodIn wsL_law (wsV RL 122 RX11 yX11_keep wsX11_keep) := goodIn_app (goodIn_of _ (by decide +kernel)) ggL_law_X11_keep
set_option maxRecDepth 20000 in
theorem ggL_law_X12_keep : GoodIn wsL_law wsX12_keep := goodIn_r _ [824, 383, 142, 145, 526, 146, 315, 173, 174, 5, 175, 308, 309, 310, 850, 851, 852, 853, 854, 855, 856, 857, 858, 859, 860, 861, 862, 863, 864, 865, 866, 867, 868, 869, 870, 871, 872, 873, 874] (by decide +kernel) (by decide +kernel)
set_option maxRecDepth 20000 in
theorem gL_law_X12_keep : GoodIn wsL_law (wsV RL 125 RX12 yX12_keep wsX12_keep) := goodIn_app (goodIn_of _ (by decide +kernel)) ggL_law_X12_keep
set_option maxRecDepth 20000 in
theorem ggL_law_X11_goBack : GoodIn wsL_law wsX11_goBack := goodIn_r _ [828, 33, 371, 24, 37, 401, 29, 810, 811, 812, 32, 813, 829, 830, 831, 832, 103, 101, 102, 818, 819, 833, 540, 541, 83, 542, 95, 96, 413, 414, 415, 416, 417, 418, 419, 420, 421, 264, 265, 266, 28, 267, 85, 86, 838, 839, 840, 841, 842, 843, 844, 845, 846, 847, 848, 849, 896, 897, 898, 899, 914, 915, 888, 889, 890, 891, 892, 893, 894, 895] (by decide +kernel) (by decide +kernel)
set_option maxRecDepth 20000 in
theorem gL_law_X11_goBack : GoodIn wsL_law (wsV RL 126 RX11 yX11_goBack wsX11_goBack) := goodIn_app (goodIn_of _ (by decide +kernel)) ggL_law_X11_goBack
set_option maxRecDepth 20000 in
theorem ggL_law_X12_goBack : GoodIn wsL_law wsX12_goBack := goodIn_r _ [837, 383, 146, 448, 145, 142, 526, 315, 173, 174, 5, 175, 308, 309, 310, 850, 851, 852, 853, 854, 855, 856, 857, 858, 859, 860, 861, 862, 863, 864, 865, 866, 867, 868, 869, 870, 871, 872, 873, 874] (by decide +kernel) (by decide +kernel)
set_option maxRecDepth 20000 in
theorem gL_law_X12_goBack : GoodIn wsL_law (wsV RL 129 RX12 yX12_goBack wsX12_goBack) := goodIn_app (goodIn_of _ (by decide +kernel)) ggL_law_X12_goBack
