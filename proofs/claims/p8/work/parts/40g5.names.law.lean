set_option maxRecDepth 20000 in
theorem ggL_law_X12_list : GoodIn wsL_law wsX12_list := goodIn_r _ [689, 124, 134, 133, 234, 235, 236, 5, 237, 238, 897, 898, 899, 900, 901, 902, 903, 904, 905, 906, 907, 908, 909, 910, 911, 912, 913, 914, 915, 916, 917, 918, 919, 920, 921, 922, 923, 924, 925, 926, 927, 928, 929, 930, 931, 932] (by decide +kernel) (by decide +kernel)
set_option maxRecDepth 20000 in
theorem gL_law_X12_list : GoodIn wsL_law (wsV RL 79 RX12 yX12_list wsX12_list) := goodIn_app (goodIn_of _ (by decide +kernel)) ggL_law_X12_list
set_option maxRecDepth 20000 in
theorem ggL_law_X12_thrown : GoodIn wsL_law wsX12_thrown := goodIn_r _ [693, 238, 897, 898, 899, 900, 901, 902, 903, 904, 905, 906, 907, 908, 909, 910, 911, 912, 913, 914, 915, 916, 917, 918, 919, 920, 921, 922, 923, 924, 925, 926, 927, 928, 929, 930, 931, 932] (by decide +kernel) (by decide +kernel)
set_option maxRecDepth 20000 in
theorem gL_law_X12_thrown : GoodIn wsL_law (wsV RL 80 RX12 yX12_thrown wsX12_thrown) := goodIn_app (goodIn_of _ (by decide +kernel)) ggL_law_X12_thrown
set_option maxRecDepth 20000 in
theorem ggL_law_L_worst : GoodIn wsL_law wsL_worst := goodIn_ca (goodIn_r _ [696, 149, 697, 698, 699, 2, 700, 154, 155, 21, 701, 702, 703, 704, 705, 706, 11, 12, 46, 707, 708, 709, 710, 53, 54, 711, 712, 713, 714, 715, 716, 717, 718, 61, 62, 63, 64, 65, 66, 67, 68, 69, 70, 71, 719, 720, 721, 722, 723, 724, 725, 726, 727, 728, 729, 730, 731, 732, 733, 734, 735, 736, 737, 738, 739, 740, 741, 742, 743, 744, 162, 163, 745, 746, 747, 748, 749, 197, 198, 199, 750, 202, 203, 204, 751, 752, 753, 754, 755, 756, 757, 758, 303, 304, 305, 306, 307, 308, 309, 310, 311, 312, 313, 314, 315, 316, 317, 318, 319, 320, 321, 322, 323, 324, 325, 759, 760, 761, 762, 763, 764, 765, 766, 892, 893, 894, 895, 896, 965, 966, 967, 968, 969, 970, 971, 972, 973, 961, 962, 963, 964] (by decide +kernel) (by decide +kernel)) (goodIn_sub (fun _ h => List.mem_append_left _ (List.mem_append_left _ (List.mem_append_left _ (List.mem_append_left _ (List.mem_append_right _ h))))) (by decide +kernel))
set_option maxRecDepth 20000 in
theorem gL_law_L_worst : GoodIn wsL_law (va_wsS RL 84 yL_worst wsL_worst) := goodIn_app (goodIn_of _ (by decide +kernel)) ggL_law_L_worst
