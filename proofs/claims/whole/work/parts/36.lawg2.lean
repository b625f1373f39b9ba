set_option maxRecDepth 20000 in
theorem ggL_law_X11_held : GoodIn wsL_law wsX11_held := goodIn_r _ [625, 53, 19, 24, 584, 585, 586, 2, 587, 331, 333, 588, 92, 93, 94, 626, 627, 628, 52, 629, 630, 135, 631, 632, 633, 634, 635, 236, 237, 18, 238, 193, 636, 637, 638, 639, 640, 407, 408, 838, 839, 840, 841, 842, 843, 844, 845, 846, 847, 848, 849, 880, 881, 882, 883, 884, 885, 886, 887, 888, 889, 890, 891, 892, 913] (by decide +kernel) (by decide +kernel)
set_option maxRecDepth 20000 in
theorem gL_law_X11_held : GoodIn wsL_law (wsV RL 73 RX11 yX11_held wsX11_held) := goodIn_app (goodIn_of _ (by decide +kernel)) ggL_law_X11_held
set_option maxRecDepth 20000 in
theorem ggL_law_X12_held : GoodIn wsL_law wsX12_held := goodIn_r _ [644, 140, 152, 142, 615, 616, 617, 5, 618, 356, 357, 358, 359, 462, 463, 464, 850, 851, 852, 853, 854, 855, 856, 857, 858, 859, 860, 861, 862, 863, 864, 865, 866, 867, 868, 869, 870, 871, 872, 873, 874] (by decide +kernel) (by decide +kernel)
set_option maxRecDepth 20000 in
theorem gL_law_X12_held : GoodIn wsL_law (wsV RL 76 RX12 yX12_held wsX12_held) := goodIn_app (goodIn_of _ (by decide +kernel)) ggL_law_X12_held
set_option maxRecDepth 20000 in
theorem ggL_law_X11_breath : GoodIn wsL_law wsX11_breath := goodIn_r _ [648, 158, 19, 181, 25, 24, 45, 649, 334, 650, 651, 555, 556, 557, 23, 558, 73, 559, 415, 416, 417, 74, 75, 76, 77, 652, 653, 654, 44, 655, 656, 123, 124, 122, 657, 658, 659, 660, 661, 662, 663, 344, 345, 346, 347, 664, 488, 489, 490, 491, 433, 407, 93, 408, 492, 493, 236, 237, 18, 238, 193, 428, 429, 430, 431, 432, 434, 435, 436, 437, 438, 838, 839, 840, 841, 842, 843, 844, 845, 846, 847, 848, 849, 880, 881, 882, 883, 884, 885, 886, 887, 906, 907, 908, 888, 889, 890, 891, 892] (by decide +kernel) (by decide +kernel)
set_option maxRecDepth 20000 in
theorem gL_law_X11_breath : GoodIn wsL_law (wsV RL 77 RX11 yX11_breath wsX11_breath) := goodIn_app (goodIn_of _ (by decide +kernel)) ggL_law_X11_breath
set_option maxRecDepth 20000 in
theorem ggL_law_X12_breath : GoodIn wsL_law wsX12_breath := goodIn_r _ [668, 669, 170, 140, 143, 173, 174, 5, 175, 568, 569, 570, 571, 142, 308, 309, 310, 360, 361, 362, 498, 499, 500, 501, 151, 457, 462, 463, 464, 458, 459, 460, 461, 850, 851, 852, 853, 854, 855, 856, 857, 858, 859, 860, 861, 862, 863, 864, 865, 866, 867, 868, 869, 870, 871, 872, 873, 874] (by decide +kernel) (by decide +kernel)
set_option maxRecDepth 20000 in
theorem gL_law_X12_breath : GoodIn wsL_law (wsV RL 80 RX12 yX12_breath wsX12_breath) := goodIn_app (goodIn_of _ (by decide +kernel)) ggL_law_X12_breath
set_option maxRecDepth 20000 in
theorem ggL_law_X11_pulled : GoodIn wsL_law wsX11_pulled := goodIn_r _ [673, 49, 19, 181, 24, 158, 674, 675, 676, 48, 677, 130, 128, 678, 679, 680, 681, 682, 129, 683, 684, 92, 93, 94, 131, 685, 686, 687, 688, 689, 690, 236, 237, 18, 238, 193, 838, 839, 840, 841, 842, 843, 844, 845, 846, 847, 848, 849, 880, 881, 882, 883, 884, 885, 886, 887, 909, 910, 911, 912, 888, 889, 890, 891, 892] (by decide +kernel) (by decide +kernel)
set_option maxRecDepth 20000 in
theorem gL_law_X11_pulled : GoodIn wsL_law (wsV RL 81 RX11 yX11_pulled wsX11_pulled) := goodIn_app (goodIn_of _ (by decide +kernel)) ggL_law_X11_pulled
set_option maxRecDepth 20000 in
theorem ggL_law_X12_pulled : GoodIn wsL_law wsX12_pulled := goodIn_r _ [694, 170, 695, 696, 697, 5, 698, 140, 384, 385, 386, 387, 173, 174, 175, 608, 609, 610, 699, 700, 701, 702, 153, 142, 619, 620, 621, 850, 851, 852, 853, 854, 855, 856, 857, 858, 859, 860, 861, 862, 863, 864, 865, 866, 867, 868, 869, 870, 871, 872, 873, 874] (by decide +kernel) (by decide +kernel)
set_option maxRecDepth 20000 in
theorem gL_law_X12_pulled : GoodIn wsL_law (wsV RL 84 RX12 yX12_pulled wsX12_pulled) := goodIn_app (goodIn_of _ (by decide +kernel)) ggL_law_X12_pulled
set_option maxRecDepth 20000 in
theorem ggL_law_X11_best : GoodIn wsL_law wsX11_best := goodIn_r _ [706, 158, 49, 19, 181, 24, 707, 708, 709, 48, 710, 674, 675, 676, 677, 130, 128, 678, 679, 680, 681, 682, 129, 683, 684, 92, 93, 94, 131, 685, 686, 687, 688, 689, 690, 236, 237, 18, 238, 193, 838, 839, 840, 841, 842, 843, 844, 845, 846, 847, 848, 849, 880, 881, 882, 883, 884, 885, 886, 887, 909, 910, 911, 912, 888, 889, 890, 891, 892] (by decide +kernel) (by decide +kernel)
set_option maxRecDepth 20000 in
theorem gL_law_X11_best : GoodIn wsL_law (wsV RL 85 RX11 yX11_best wsX11_best) := goodIn_app (goodIn_of _ (by decide +kernel)) ggL_law_X11_best
set_option maxRecDepth 20000 in
theorem ggL_law_X12_best : GoodIn wsL_law wsX12_best := goodIn_r _ [714, 170, 140, 715, 173, 174, 5, 175, 695, 696, 697, 698, 384, 385, 386, 387, 608, 609, 610, 699, 700, 701, 702, 153, 142, 619, 620, 621, 850, 851, 852, 853, 854, 855, 856, 857, 858, 859, 860, 861, 862, 863, 864, 865, 866, 867, 868, 869, 870, 871, 872, 873, 874] (by decide +kernel) (by decide +kernel)
set_option maxRecDepth 20000 in
theorem gL_law_X12_best : GoodIn wsL_law (wsV RL 88 RX12 yX12_best wsX12_best) := goodIn_app (goodIn_of _ (by decide +kernel)) ggL_law_X12_best
set_option maxRecDepth 20000 in
theorem ggL_law_X11_dry : GoodIn wsL_law wsX11_dry := goodIn_r _ [719, 158, 720, 721] (by decide +kernel) (by decide +kernel)
set_option maxRecDepth 20000 in
theorem gL_law_X11_dry : GoodIn wsL_law (wsV RL 89 RX11 yX11_dry wsX11_dry) := goodIn_app (goodIn_of _ (by decide +kernel)) ggL_law_X11_dry
set_option maxRecDepth 20000 in
theorem ggL_law_X12_dry : GoodIn wsL_law wsX12_dry := goodIn_r _ [725, 482, 726, 170, 727, 173, 174, 5, 175] (by decide +kernel) (by decide +kernel)
set_option maxRecDepth 20000 in
theorem gL_law_X12_dry : GoodIn wsL_law (wsV RL 92 RX12 yX12_dry wsX12_dry) := goodIn_app (goodIn_of _ (by decide +kernel)) ggL_law_X12_dry
set_option maxRecDepth 20000 in
theorem ggL_law_X11_see : GoodIn wsL_law wsX11_see := goodIn_r _ [731, 19, 371, 41, 336, 160, 378, 236, 237, 18, 238, 193, 732, 733, 734, 40, 735, 117, 112, 114, 838, 839, 840, 841, 842, 843, 844, 845, 846, 847, 848, 849, 900, 901, 902, 903, 904, 905, 880, 881, 882, 883, 884, 885, 886, 887] (by decide +kernel) (by decide +kernel)
set_option maxRecDepth 20000 in
theorem gL_law_X11_see : GoodIn wsL_law (wsV RL 93 RX11 yX11_see wsX11_see) := goodIn_app (goodIn_of _ (by decide +kernel)) ggL_law_X11_see
set_option maxRecDepth 20000 in
theorem ggL_law_X12_see : GoodIn wsL_law wsX12_see := goodIn_r _ [739, 383, 316, 172, 149, 384, 385, 386, 5, 387, 140, 173, 174, 175, 850, 851, 852, 853, 854, 855, 856, 857, 858, 859, 860, 861, 862, 863, 864, 865, 866, 867, 868, 869, 870, 871, 872, 873, 874] (by decide +kernel) (by decide +kernel)
set_option maxRecDepth 20000 in
theorem gL_law_X12_see : GoodIn wsL_law (wsV RL 97 RX12 yX12_see wsX12_see) := goodIn_app (goodIn_of _ (by decide +kernel)) ggL_law_X12_see
set_option maxRecDepth 20000 in
theorem ggL_law_X11_whence : GoodIn wsL_law wsX11_whence := goodIn_r _ [743, 41, 19, 744, 745, 746, 40, 747, 748, 117, 112, 749, 114, 750, 236, 237, 18, 238, 193, 838, 839, 840, 841, 842, 843, 844, 845, 846, 847, 848, 849, 880, 881, 882, 883, 884, 885, 886, 887, 900, 901, 902, 903, 904, 905] (by decide +kernel) (by decide +kernel)
set_option maxRecDepth 20000 in
theorem gL_law_X11_whence : GoodIn wsL_law (wsV RL 98 RX11 yX11_whence wsX11_whence) := goodIn_app (goodIn_of _ (by decide +kernel)) ggL_law_X11_whence
set_option maxRecDepth 20000 in
theorem ggL_law_X12_whence : GoodIn wsL_law wsX12_whence := goodIn_r _ [754, 140, 316, 149, 388, 389, 390, 5, 391, 850, 851, 852, 853, 854, 855, 856, 857, 858, 859, 860, 861, 862, 863, 864, 865, 866, 867, 868, 869, 870, 871, 872, 873, 874] (by decide +kernel) (by decide +kernel)
set_option maxRecDepth 20000 in
theorem gL_law_X12_whence : GoodIn wsL_law (wsV RL 101 RX12 yX12_whence wsX12_whence) := goodIn_app (goodIn_of _ (by decide +kernel)) ggL_law_X12_whence
set_option maxRecDepth 20000 in
theorem ggL_law_X11_lookAt : GoodIn wsL_law wsX11_lookAt := goodIn_r _ [758, 41, 19, 181, 377, 588, 92, 93, 94, 744, 745, 746, 40, 747, 748, 117, 112, 749, 114, 750, 236, 237, 18, 238, 193, 589, 590, 591, 592, 593, 594, 595, 838, 839, 840, 841, 842, 843, 844, 845, 846, 847, 848, 849, 880, 881, 882, 883, 884, 885, 886, 887, 900, 901, 902, 903, 904, 905] (by decide +kernel) (by decide +kernel)
set_option maxRecDepth 20000 in
theorem gL_law_X11_lookAt : GoodIn wsL_law (wsV RL 102 RX11 yX11_lookAt wsX11_lookAt) := goodIn_app (goodIn_of _ (by decide +kernel)) ggL_law_X11_lookAt
