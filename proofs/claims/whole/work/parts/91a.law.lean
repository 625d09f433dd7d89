set_option maxRecDepth 20000 in
theorem ggL_law_X8_init : GoodIn wsL_law wsX8_init := goodIn_r _ [8, 9, 10, 11, 12, 13, 14, 15, 16, 17, 18, 19, 20, 21, 22, 23, 24, 25, 26, 27, 28, 29, 30, 31, 32, 33, 34, 35, 36, 37, 38, 39, 40, 41, 42, 43, 44, 45, 46, 47, 48, 49, 50, 51, 52, 53, 54, 55, 56, 57, 58, 59, 60, 61, 62, 63, 64, 65, 66, 67, 68, 69, 70, 71, 72, 73, 74, 75, 76, 77, 78, 79, 80, 81, 82, 83, 84, 85, 86, 87, 88, 89, 90, 91, 92, 93, 94, 95, 96, 97, 98, 99, 100, 101, 102, 103, 104, 105, 106, 107, 108, 109, 110, 111, 112, 113, 887, 888, 889, 890, 844, 845, 846, 847, 848, 849, 850, 851, 852, 853, 854, 891, 892, 893, 894, 895, 896, 897, 898, 899, 900, 901, 902, 903, 904, 905, 906, 907, 908, 909, 910, 911, 912, 913, 914, 915, 916, 917, 918] (by decide +kernel) (by decide +kernel)
set_option maxRecDepth 20000 in
theorem gL_law_X8_init : GoodIn wsL_law (wsX8_init) := ggL_law_X8_init
set_option maxRecDepth 20000 in
theorem ggL_law_X9_init : GoodIn wsL_law wsX9_init := goodIn_r _ [116, 117, 10, 11, 118, 53, 119, 44, 120, 121, 122, 123, 124, 125, 126, 127, 128, 129, 130, 131, 132, 133, 134, 135, 136, 137, 138, 139, 140, 5, 141, 855, 856, 857, 858, 859, 860, 861, 862, 863, 864, 865, 866, 867, 868, 869, 870, 871, 872, 873, 874, 875, 876, 877, 878, 879, 880, 881, 882, 883, 884, 885, 886] (by decide +kernel) (by decide +kernel)
set_option maxRecDepth 20000 in
theorem gL_law_X9_init : GoodIn wsL_law (wsX9_init) := ggL_law_X9_init
set_option maxRecDepth 20000 in
theorem ggL_law_X8_length : GoodIn wsL_law wsX8_length := goodIn_r _ [145, 15, 27, 146, 147, 148, 2, 149, 45, 150, 151, 152, 14, 153, 56, 154, 155, 156, 157, 54, 158, 159, 160, 26, 161, 79, 162, 163, 164, 165, 844, 845, 846, 847, 848, 849, 850, 851, 852, 853, 854, 887, 888, 889, 890, 902, 903] (by decide +kernel) (by decide +kernel)
set_option maxRecDepth 20000 in
theorem gL_law_X8_length : GoodIn wsL_law (wsV RL 13 RX8 yX8_length wsX8_length) := goodIn_app (goodIn_of _ (by decide +kernel)) ggL_law_X8_length
set_option maxRecDepth 20000 in
theorem ggL_law_X9_length : GoodIn wsL_law wsX9_length := goodIn_r _ [169, 118, 119, 170, 171, 172, 5, 173, 132, 138, 139, 140, 141, 127, 128, 855, 856, 857, 858, 859, 860, 861, 862, 863, 864, 865, 866, 867, 868, 869, 870, 871, 872, 873, 874, 875, 876, 877, 878, 879, 880, 881, 882, 883, 884, 885, 886] (by decide +kernel) (by decide +kernel)
set_option maxRecDepth 20000 in
theorem gL_law_X9_length : GoodIn wsL_law (wsV RL 17 RX9 yX9_length wsX9_length) := goodIn_app (goodIn_of _ (by decide +kernel)) ggL_law_X9_length
set_option maxRecDepth 20000 in
theorem ggL_law_X8_blank : GoodIn wsL_law wsX8_blank := goodIn_r _ [177, 15, 178, 179, 2, 180, 146, 147, 148, 149, 45, 181, 182, 183, 14, 184, 54, 185, 186, 187, 188, 52, 189, 190, 164, 191, 844, 845, 846, 847, 848, 849, 850, 851, 852, 853, 854, 887, 888, 889, 890] (by decide +kernel) (by decide +kernel)
set_option maxRecDepth 20000 in
theorem gL_law_X8_blank : GoodIn wsL_law (wsV RL 18 RX8 yX8_blank wsX8_blank) := goodIn_app (goodIn_of _ (by decide +kernel)) ggL_law_X8_blank
set_option maxRecDepth 20000 in
theorem ggL_law_X9_blank : GoodIn wsL_law wsX9_blank := goodIn_r _ [195, 119, 120, 196, 197, 5, 198, 199, 200, 201, 170, 171, 172, 173, 132, 855, 856, 857, 858, 859, 860, 861, 862, 863, 864, 865, 866, 867, 868, 869, 870, 871, 872, 873, 874, 875, 876, 877, 878, 879, 880, 881, 882, 883, 884, 885, 886] (by decide +kernel) (by decide +kernel)
set_option maxRecDepth 20000 in
theorem gL_law_X9_blank : GoodIn wsL_law (wsV RL 21 RX9 yX9_blank wsX9_blank) := goodIn_app (goodIn_of _ (by decide +kernel)) ggL_law_X9_blank
set_option maxRecDepth 20000 in
theorem ggL_law_X8_lose : GoodIn wsL_law wsX8_lose := goodIn_r _ [205, 15, 206, 207, 208, 2, 209, 178, 179, 180, 181, 182, 183, 14, 184, 54, 146, 147, 148, 149, 45, 210, 211, 212, 213, 844, 845, 846, 847, 848, 849, 850, 851, 852, 853, 854, 887, 888, 889, 890] (by decide +kernel) (by decide +kernel)
set_option maxRecDepth 20000 in
theorem gL_law_X8_lose : GoodIn wsL_law (wsV RL 22 RX8 yX8_lose wsX8_lose) := goodIn_app (goodIn_of _ (by decide +kernel)) ggL_law_X8_lose
set_option maxRecDepth 20000 in
theorem ggL_law_X9_lose : GoodIn wsL_law wsX9_lose := goodIn_r _ [217, 119, 218, 219, 220, 5, 221, 196, 197, 198, 199, 200, 201, 170, 171, 172, 173, 132, 855, 856, 857, 858, 859, 860, 861, 862, 863, 864, 865, 866, 867, 868, 869, 870, 871, 872, 873, 874, 875, 876, 877, 878, 879, 880, 881, 882, 883, 884, 885, 886] (by decide +kernel) (by decide +kernel)
set_option maxRecDepth 20000 in
theorem gL_law_X9_lose : GoodIn wsL_law (wsV RL 25 RX9 yX9_lose wsX9_lose) := goodIn_app (goodIn_of _ (by decide +kernel)) ggL_law_X9_lose
set_option maxRecDepth 20000 in
theorem ggL_law_X8_cutAt : GoodIn wsL_law wsX8_cutAt := goodIn_r _ [225, 15, 226, 227, 228, 2, 229, 206, 207, 208, 209, 178, 179, 180, 181, 182, 183, 14, 184, 54, 150, 151, 152, 153, 56, 146, 147, 148, 149, 45, 230, 231, 232, 233, 52, 234, 235, 236, 237, 844, 845, 846, 847, 848, 849, 850, 851, 852, 853, 854, 887, 888, 889, 890] (by decide +kernel) (by decide +kernel)
set_option maxRecDepth 20000 in
theorem gL_law_X8_cutAt : GoodIn wsL_law (wsV RL 26 RX8 yX8_cutAt wsX8_cutAt) := goodIn_app (goodIn_of _ (by decide +kernel)) ggL_law_X8_cutAt
set_option maxRecDepth 20000 in
theorem ggL_law_X9_cutAt : GoodIn wsL_law wsX9_cutAt := goodIn_r _ [241, 118, 120, 218, 219, 220, 5, 221, 119, 196, 197, 198, 199, 200, 201, 170, 171, 172, 173, 132, 855, 856, 857, 858, 859, 860, 861, 862, 863, 864, 865, 866, 867, 868, 869, 870, 871, 872, 873, 874, 875, 876, 877, 878, 879, 880, 881, 882, 883, 884, 885, 886] (by decide +kernel) (by decide +kernel)
set_option maxRecDepth 20000 in
theorem gL_law_X9_cutAt : GoodIn wsL_law (wsV RL 30 RX9 yX9_cutAt wsX9_cutAt) := goodIn_app (goodIn_of _ (by decide +kernel)) ggL_law_X9_cutAt
set_option maxRecDepth 20000 in
theorem ggL_law_X8_height : GoodIn wsL_law wsX8_height := goodIn_r _ [245, 15, 226, 227, 228, 2, 229, 206, 207, 208, 209, 178, 179, 180, 181, 182, 183, 14, 184, 54, 150, 151, 152, 153, 56, 146, 147, 148, 149, 45, 230, 231, 232, 233, 52, 844, 845, 846, 847, 848, 849, 850, 851, 852, 853, 854, 887, 888, 889, 890] (by decide +kernel) (by decide +kernel)
set_option maxRecDepth 20000 in
theorem gL_law_X8_height : GoodIn wsL_law (wsV RL 31 RX8 yX8_height wsX8_height) := goodIn_app (goodIn_of _ (by decide +kernel)) ggL_law_X8_height
set_option maxRecDepth 20000 in
theorem ggL_law_X9_height : GoodIn wsL_law wsX9_height := goodIn_r _ [249, 118, 120, 218, 219, 220, 5, 221, 119, 196, 197, 198, 199, 200, 201, 170, 171, 172, 173, 132, 855, 856, 857, 858, 859, 860, 861, 862, 863, 864, 865, 866, 867, 868, 869, 870, 871, 872, 873, 874, 875, 876, 877, 878, 879, 880, 881, 882, 883, 884, 885, 886] (by decide +kernel) (by decide +kernel)
set_option maxRecDepth 20000 in
theorem gL_law_X9_height : GoodIn wsL_law (wsV RL 35 RX9 yX9_height wsX9_height) := goodIn_app (goodIn_of _ (by decide +kernel)) ggL_law_X9_height
set_option maxRecDepth 20000 in
theorem ggL_law_X8_copy : GoodIn wsL_law wsX8_copy := goodIn_r _ [253, 15, 178, 179, 2, 180, 146, 147, 148, 149, 45, 181, 182, 183, 14, 184, 54, 254, 255, 256, 257, 56, 258, 259, 260, 261, 52, 262, 263, 264, 265, 844, 845, 846, 847, 848, 849, 850, 851, 852, 853, 854, 887, 888, 889, 890] (by decide +kernel) (by decide +kernel)
set_option maxRecDepth 20000 in
theorem gL_law_X8_copy : GoodIn wsL_law (wsV RL 36 RX8 yX8_copy wsX8_copy) := goodIn_app (goodIn_of _ (by decide +kernel)) ggL_law_X8_copy
set_option maxRecDepth 20000 in
theorem ggL_law_X9_copy : GoodIn wsL_law wsX9_copy := goodIn_r _ [269, 119, 118, 133, 120, 196, 197, 5, 198, 199, 200, 201, 170, 171, 172, 173, 132, 855, 856, 857, 858, 859, 860, 861, 862, 863, 864, 865, 866, 867, 868, 869, 870, 871, 872, 873, 874, 875, 876, 877, 878, 879, 880, 881, 882, 883, 884, 885, 886] (by decide +kernel) (by decide +kernel)
set_option maxRecDepth 20000 in
theorem gL_law_X9_copy : GoodIn wsL_law (wsV RL 40 RX9 yX9_copy wsX9_copy) := goodIn_app (goodIn_of _ (by decide +kernel)) ggL_law_X9_copy
set_option maxRecDepth 20000 in
theorem ggL_law_X8_turn : GoodIn wsL_law wsX8_turn := goodIn_r _ [273, 15, 226, 227, 228, 2, 229, 206, 207, 208, 209, 178, 179, 180, 181, 182, 183, 14, 184, 54, 150, 151, 152, 153, 56, 146, 147, 148, 149, 45, 274, 275, 276, 277, 52, 55, 262, 263, 264, 265, 278, 279, 280, 281, 844, 845, 846, 847, 848, 849, 850, 851, 852, 853, 854, 887, 888, 889, 890] (by decide +kernel) (by decide +kernel)
set_option maxRecDepth 20000 in
theorem gL_law_X8_turn : GoodIn wsL_law (wsV RL 41 RX8 yX8_turn wsX8_turn) := goodIn_app (goodIn_of _ (by decide +kernel)) ggL_law_X8_turn
set_option maxRecDepth 20000 in
theorem ggL_law_X9_turn : GoodIn wsL_law wsX9_turn := goodIn_r _ [285, 118, 133, 120, 218, 219, 220, 5, 221, 119, 196, 197, 198, 199, 200, 201, 170, 171, 172, 173, 132, 855, 856, 857, 858, 859, 860, 861, 862, 863, 864, 865, 866, 867, 868, 869, 870, 871, 872, 873, 874, 875, 876, 877, 878, 879, 880, 881, 882, 883, 884, 885, 886] (by decide +kernel) (by decide +kernel)
set_option maxRecDepth 20000 in
theorem gL_law_X9_turn : GoodIn wsL_law (wsV RL 44 RX9 yX9_turn wsX9_turn) := goodIn_app (goodIn_of _ (by decide +kernel)) ggL_law_X9_turn
set_option maxRecDepth 20000 in
theorem ggL_law_X8_blanks : GoodIn wsL_law wsX8_blanks := goodIn_r _ [289, 15, 290, 291, 292, 14, 293, 54, 294, 295, 296, 297, 298, 299, 300, 301, 56, 52, 302, 303, 304, 305, 278, 279, 280, 281, 844, 845, 846, 847, 848, 849, 850, 851, 852, 853, 854, 887, 888, 889, 890] (by decide +kernel) (by decide +kernel)
set_option maxRecDepth 20000 in
theorem gL_law_X8_blanks : GoodIn wsL_law (wsV RL 45 RX8 yX8_blanks wsX8_blanks) := goodIn_app (goodIn_of _ (by decide +kernel)) ggL_law_X8_blanks
set_option maxRecDepth 20000 in
theorem ggL_law_X9_blanks : GoodIn wsL_law wsX9_blanks := goodIn_r _ [309, 310, 311, 312, 5, 313, 134, 135, 119, 314, 315, 316, 317, 118, 120, 855, 856, 857, 858, 859, 860, 861, 862, 863, 864, 865, 866, 867, 868, 869, 870, 871, 872, 873, 874, 875, 876, 877, 878, 879, 880, 881, 882, 883, 884, 885, 886] (by decide +kernel) (by decide +kernel)
set_option maxRecDepth 20000 in
theorem gL_law_X9_blanks : GoodIn wsL_law (wsV RL 49 RX9 yX9_blanks wsX9_blanks) := goodIn_app (goodIn_of _ (by decide +kernel)) ggL_law_X9_blanks
set_option maxRecDepth 20000 in
theorem ggL_law_X8_camOf : GoodIn wsL_law wsX8_camOf := goodIn_r _ [321, 15, 206, 207, 208, 2, 209, 178, 179, 180, 181, 182, 183, 14, 184, 54, 146, 147, 148, 149, 45, 322, 295, 296, 297, 298, 299, 300, 301, 56, 52, 302, 303, 304, 305, 278, 279, 280, 281, 290, 291, 292, 293, 294, 323, 324, 325, 326, 327, 328, 329, 330, 331, 332, 333, 334, 844, 845, 846, 847, 848, 849, 850, 851, 852, 853, 854, 887, 888, 889, 890] (by decide +kernel) (by decide +kernel)
set_option maxRecDepth 20000 in
theorem gL_law_X8_camOf : GoodIn wsL_law (wsV RL 50 RX8 yX8_camOf wsX8_camOf) := goodIn_app (goodIn_of _ (by decide +kernel)) ggL_law_X8_camOf
set_option maxRecDepth 20000 in
theorem ggL_law_X9_camOf : GoodIn wsL_law wsX9_camOf := goodIn_r _ [338, 135, 134, 218, 219, 220, 5, 221, 119, 196, 197, 198, 199, 200, 201, 170, 171, 172, 173, 132, 310, 311, 312, 313, 314, 315, 316, 317, 118, 120, 339, 340, 341, 342, 855, 856, 857, 858, 859, 860, 861, 862, 863, 864, 865, 866, 867, 868, 869, 870, 871, 872, 873, 874, 875, 876, 877, 878, 879, 880, 881, 882, 883, 884, 885, 886] (by decide +kernel) (by decide +kernel)
set_option maxRecDepth 20000 in
theorem gL_law_X9_camOf : GoodIn wsL_law (wsV RL 53 RX9 yX9_camOf wsX9_camOf) := goodIn_app (goodIn_of _ (by decide +kernel)) ggL_law_X9_camOf
set_option maxRecDepth 20000 in
theorem ggL_law_X8_letter : GoodIn wsL_law wsX8_letter := goodIn_r _ [346, 19, 347, 348, 2, 349, 178, 179, 180, 146, 147, 148, 149, 45, 350, 351, 352, 18, 353, 60, 61, 62, 844, 845, 846, 847, 848, 849, 850, 851, 852, 853, 854, 891, 892, 893, 894, 895, 896] (by decide +kernel) (by decide +kernel)
set_option maxRecDepth 20000 in
theorem gL_law_X8_letter : GoodIn wsL_law (wsV RL 54 RX8 yX8_letter wsX8_letter) := goodIn_app (goodIn_of _ (by decide +kernel)) ggL_law_X8_letter
set_option maxRecDepth 20000 in
theorem ggL_law_X9_letter : GoodIn wsL_law wsX9_letter := goodIn_r _ [357, 121, 122, 123, 199, 200, 5, 201, 196, 197, 198, 170, 171, 172, 173, 132, 855, 856, 857, 858, 859, 860, 861, 862, 863, 864, 865, 866, 867, 868, 869, 870, 871, 872, 873, 874, 875, 876, 877, 878, 879, 880, 881, 882, 883, 884, 885, 886] (by decide +kernel) (by decide +kernel)
set_option maxRecDepth 20000 in
theorem gL_law_X9_letter : GoodIn wsL_law (wsV RL 58 RX9 yX9_letter wsX9_letter) := goodIn_app (goodIn_of _ (by decide +kernel)) ggL_law_X9_letter
set_option maxRecDepth 20000 in
theorem ggL_law_X8_isCut : GoodIn wsL_law wsX8_isCut := goodIn_r _ [361, 19, 15, 347, 348, 2, 349, 146, 147, 148, 149, 45, 362, 363, 364, 18, 365, 60, 61, 62, 366, 182, 183, 14, 184, 54, 844, 845, 846, 847, 848, 849, 850, 851, 852, 853, 854, 891, 892, 893, 894, 895, 896, 887, 888, 889, 890] (by decide +kernel) (by decide +kernel)
set_option maxRecDepth 20000 in
theorem gL_law_X8_isCut : GoodIn wsL_law (wsV RL 59 RX8 yX8_isCut wsX8_isCut) := goodIn_app (goodIn_of _ (by decide +kernel)) ggL_law_X8_isCut
set_option maxRecDepth 20000 in
theorem ggL_law_X9_isCut : GoodIn wsL_law wsX9_isCut := goodIn_r _ [370, 199, 200, 5, 201, 371, 372, 373, 374, 119, 121, 122, 123, 170, 171, 172, 173, 132, 855, 856, 857, 858, 859, 860, 861, 862, 863, 864, 865, 866, 867, 868, 869, 870, 871, 872, 873, 874, 875, 876, 877, 878, 879, 880, 881, 882, 883, 884, 885, 886] (by decide +kernel) (by decide +kernel)
set_option maxRecDepth 20000 in
theorem gL_law_X9_isCut : GoodIn wsL_law (wsV RL 62 RX9 yX9_isCut wsX9_isCut) := goodIn_app (goodIn_of _ (by decide +kernel)) ggL_law_X9_isCut
set_option maxRecDepth 20000 in
theorem ggL_law_X8_peg : GoodIn wsL_law wsX8_peg := goodIn_r _ [378, 19, 347, 348, 2, 349, 146, 147, 148, 149, 45, 379, 380, 381, 18, 382, 64, 383, 384, 385, 386, 63, 844, 845, 846, 847, 848, 849, 850, 851, 852, 853, 854, 891, 892, 893, 894, 895, 896] (by decide +kernel) (by decide +kernel)
set_option maxRecDepth 20000 in
theorem gL_law_X8_peg : GoodIn wsL_law (wsV RL 63 RX8 yX8_peg wsX8_peg) := goodIn_app (goodIn_of _ (by decide +kernel)) ggL_law_X8_peg
set_option maxRecDepth 20000 in
theorem ggL_law_X9_peg : GoodIn wsL_law wsX9_peg := goodIn_r _ [390, 391, 124, 199, 200, 5, 201, 170, 171, 172, 173, 132, 855, 856, 857, 858, 859, 860, 861, 862, 863, 864, 865, 866, 867, 868, 869, 870, 871, 872, 873, 874, 875, 876, 877, 878, 879, 880, 881, 882, 883, 884, 885, 886] (by decide +kernel) (by decide +kernel)
set_option maxRecDepth 20000 in
theorem gL_law_X9_peg : GoodIn wsL_law (wsV RL 66 RX9 yX9_peg wsX9_peg) := goodIn_app (goodIn_of _ (by decide +kernel)) ggL_law_X9_peg
set_option maxRecDepth 20000 in
theorem ggL_law_X8_unpeg : GoodIn wsL_law wsX8_unpeg := goodIn_r _ [395, 19, 379, 380, 381, 18, 382, 64, 146, 147, 148, 2, 149, 45, 396, 397, 398, 399, 844, 845, 846, 847, 848, 849, 850, 851, 852, 853, 854, 891, 892, 893, 894, 895, 896] (by decide +kernel) (by decide +kernel)
set_option maxRecDepth 20000 in
theorem gL_law_X8_unpeg : GoodIn wsL_law (wsV RL 67 RX8 yX8_unpeg wsX8_unpeg) := goodIn_app (goodIn_of _ (by decide +kernel)) ggL_law_X8_unpeg
set_option maxRecDepth 20000 in
theorem ggL_law_X9_unpeg : GoodIn wsL_law wsX9_unpeg := goodIn_r _ [403, 391, 170, 171, 172, 5, 173, 132, 855, 856, 857, 858, 859, 860, 861, 862, 863, 864, 865, 866, 867, 868, 869, 870, 871, 872, 873, 874, 875, 876, 877, 878, 879, 880, 881, 882, 883, 884, 885, 886] (by decide +kernel) (by decide +kernel)
set_option maxRecDepth 20000 in
theorem gL_law_X9_unpeg : GoodIn wsL_law (wsV RL 70 RX9 yX9_unpeg wsX9_unpeg) := goodIn_app (goodIn_of _ (by decide +kernel)) ggL_law_X9_unpeg
set_option maxRecDepth 20000 in
theorem ggL_law_X8_advance : GoodIn wsL_law wsX8_advance := goodIn_r _ [407, 19, 146, 147, 148, 2, 149, 45, 408, 409, 410, 18, 411, 65, 412, 413, 414, 415, 844, 845, 846, 847, 848, 849, 850, 851, 852, 853, 854, 891, 892, 893, 894, 895, 896] (by decide +kernel) (by decide +kernel)
set_option maxRecDepth 20000 in
theorem gL_law_X8_advance : GoodIn wsL_law (wsV RL 71 RX8 yX8_advance wsX8_advance) := goodIn_app (goodIn_of _ (by decide +kernel)) ggL_law_X8_advance
set_option maxRecDepth 20000 in
theorem ggL_law_X9_advance : GoodIn wsL_law wsX9_advance := goodIn_r _ [419, 125, 170, 171, 172, 5, 173, 132, 855, 856, 857, 858, 859, 860, 861, 862, 863, 864, 865, 866, 867, 868, 869, 870, 871, 872, 873, 874, 875, 876, 877, 878, 879, 880, 881, 882, 883, 884, 885, 886] (by decide +kernel) (by decide +kernel)
set_option maxRecDepth 20000 in
theorem gL_law_X9_advance : GoodIn wsL_law (wsV RL 74 RX9 yX9_advance wsX9_advance) := goodIn_app (goodIn_of _ (by decide +kernel)) ggL_law_X9_advance
set_option maxRecDepth 20000 in
theorem ggL_law_X8_pull : GoodIn wsL_law wsX8_pull := goodIn_r _ [423, 23, 146, 147, 148, 2, 149, 45, 424, 425, 426, 22, 427, 70, 428, 429, 430, 431, 844, 845, 846, 847, 848, 849, 850, 851, 852, 853, 854, 897, 898, 899, 900, 901] (by decide +kernel) (by decide +kernel)
set_option maxRecDepth 20000 in
theorem gL_law_X8_pull : GoodIn wsL_law (wsV RL 75 RX8 yX8_pull wsX8_pull) := goodIn_app (goodIn_of _ (by decide +kernel)) ggL_law_X8_pull
set_option maxRecDepth 20000 in
theorem ggL_law_X9_pull : GoodIn wsL_law wsX9_pull := goodIn_r _ [435, 126, 170, 171, 172, 5, 173, 132, 855, 856, 857, 858, 859, 860, 861, 862, 863, 864, 865, 866, 867, 868, 869, 870, 871, 872, 873, 874, 875, 876, 877, 878, 879, 880, 881, 882, 883, 884, 885, 886] (by decide +kernel) (by decide +kernel)
set_option maxRecDepth 20000 in
theorem gL_law_X9_pull : GoodIn wsL_law (wsV RL 78 RX9 yX9_pull wsX9_pull) := goodIn_app (goodIn_of _ (by decide +kernel)) ggL_law_X9_pull
set_option maxRecDepth 20000 in
theorem ggL_law_X8_wind : GoodIn wsL_law wsX8_wind := goodIn_r _ [439, 23, 146, 147, 148, 2, 149, 45, 440, 441, 442, 22, 443, 69, 71, 444, 445, 446, 447, 844, 845, 846, 847, 848, 849, 850, 851, 852, 853, 854, 897, 898, 899, 900, 901] (by decide +kernel) (by decide +kernel)
set_option maxRecDepth 20000 in
theorem gL_law_X8_wind : GoodIn wsL_law (wsV RL 79 RX8 yX8_wind wsX8_wind) := goodIn_app (goodIn_of _ (by decide +kernel)) ggL_law_X8_wind
set_option maxRecDepth 20000 in
theorem ggL_law_X9_wind : GoodIn wsL_law wsX9_wind := goodIn_r _ [451, 452, 453, 170, 171, 172, 5, 173, 132, 855, 856, 857, 858, 859, 860, 861, 862, 863, 864, 865, 866, 867, 868, 869, 870, 871, 872, 873, 874, 875, 876, 877, 878, 879, 880, 881, 882, 883, 884, 885, 886] (by decide +kernel) (by decide +kernel)
set_option maxRecDepth 20000 in
theorem gL_law_X9_wind : GoodIn wsL_law (wsV RL 82 RX9 yX9_wind wsX9_wind) := goodIn_app (goodIn_of _ (by decide +kernel)) ggL_law_X9_wind
set_option maxRecDepth 20000 in
theorem ggL_law_X8_show : GoodIn wsL_law wsX8_show := goodIn_r _ [457, 19, 15, 23, 27, 46, 47, 458, 459, 460, 18, 461, 64, 63, 462, 363, 364, 365, 60, 61, 62, 366, 182, 183, 14, 184, 54, 146, 147, 148, 2, 149, 45, 463, 464, 465, 22, 466, 73, 158, 159, 160, 26, 161, 79, 162, 163, 164, 165, 467, 468, 469, 470, 31, 35, 379, 380, 381, 382, 471, 472, 473, 30, 474, 85, 150, 151, 152, 153, 56, 475, 476, 477, 478, 70, 69, 72, 479, 480, 481, 482, 483, 484, 330, 485, 486, 487, 488, 489, 490, 491, 492, 34, 493, 494, 495, 496, 497, 92, 498, 499, 500, 501, 502, 503, 504, 505, 91, 506, 231, 232, 233, 52, 507, 508, 509, 510, 84, 511, 512, 513, 514, 515, 516, 517, 518, 519, 409, 410, 411, 65, 520, 521, 522, 523, 86, 524, 525, 526, 527, 528, 529, 530, 531, 532, 533, 534, 535, 536, 537, 538, 539, 540, 80, 541, 542, 543, 544, 545, 546, 547, 548, 549, 550, 551, 329, 331, 552, 333, 334, 553, 554, 555, 556, 557, 558, 559, 844, 845, 846, 847, 848, 849, 850, 851, 852, 853, 854, 891, 892, 893, 894, 895, 896, 887, 888, 889, 890, 897, 898, 899, 900, 901, 902, 903, 904, 905, 906, 907, 908] (by decide +kernel) (by decide +kernel)
set_option maxRecDepth 20000 in
theorem gL_law_X8_show : GoodIn wsL_law (wsV RL 83 RX8 yX8_show wsX8_show) := goodIn_app (goodIn_of _ (by decide +kernel)) ggL_law_X8_show
set_option maxRecDepth 20000 in
theorem ggL_law_X9_show : GoodIn wsL_law wsX9_show := goodIn_r _ [563, 129, 564, 391, 118, 565, 453, 126, 566, 567, 568, 569, 127, 136, 128, 137, 570, 571, 572, 5, 573, 124, 371, 372, 373, 374, 119, 121, 122, 123, 170, 171, 172, 173, 132, 574, 575, 576, 577, 578, 579, 580, 581, 582, 583, 584, 585, 586, 587, 588, 589, 590, 591, 592, 593, 594, 595, 120, 596, 597, 598, 599, 125, 600, 601, 602, 603, 604, 605, 606, 607, 608, 609, 610, 855, 856, 857, 858, 859, 860, 861, 862, 863, 864, 865, 866, 867, 868, 869, 870, 871, 872, 873, 874, 875, 876, 877, 878, 879, 880, 881, 882, 883, 884, 885, 886] (by decide +kernel) (by decide +kernel)
set_option maxRecDepth 20000 in
theorem gL_law_X9_show : GoodIn wsL_law (wsV RL 86 RX9 yX9_show wsX9_show) := goodIn_app (goodIn_of _ (by decide +kernel)) ggL_law_X9_show
set_option maxRecDepth 20000 in
theorem ggL_law_X8_marked : GoodIn wsL_law wsX8_marked := goodIn_r _ [614, 27, 615, 542, 26, 543, 146, 147, 148, 2, 149, 45, 616, 545, 546, 547, 79, 844, 845, 846, 847, 848, 849, 850, 851, 852, 853, 854, 902, 903] (by decide +kernel) (by decide +kernel)
set_option maxRecDepth 20000 in
theorem gL_law_X8_marked : GoodIn wsL_law (wsV RL 87 RX8 yX8_marked wsX8_marked) := goodIn_app (goodIn_of _ (by decide +kernel)) ggL_law_X8_marked
set_option maxRecDepth 20000 in
theorem ggL_law_X9_marked : GoodIn wsL_law wsX9_marked := goodIn_r _ [620, 127, 621, 622, 5, 623, 199, 200, 201, 170, 171, 172, 173, 132, 855, 856, 857, 858, 859, 860, 861, 862, 863, 864, 865, 866, 867, 868, 869, 870, 871, 872, 873, 874, 875, 876, 877, 878, 879, 880, 881, 882, 883, 884, 885, 886] (by decide +kernel) (by decide +kernel)
set_option maxRecDepth 20000 in
theorem gL_law_X9_marked : GoodIn wsL_law (wsV RL 90 RX9 yX9_marked wsX9_marked) := goodIn_app (goodIn_of _ (by decide +kernel)) ggL_law_X9_marked
set_option maxRecDepth 20000 in
theorem ggL_law_X8_first : GoodIn wsL_law wsX8_first := goodIn_r _ [627, 27, 615, 542, 26, 543, 146, 147, 148, 2, 149, 45, 616, 545, 546, 547, 79, 628, 629, 630, 631, 632, 633, 634, 635, 80, 636, 637, 638, 639, 844, 845, 846, 847, 848, 849, 850, 851, 852, 853, 854, 902, 903] (by decide +kernel) (by decide +kernel)
set_option maxRecDepth 20000 in
theorem gL_law_X8_first : GoodIn wsL_law (wsV RL 91 RX8 yX8_first wsX8_first) := goodIn_app (goodIn_of _ (by decide +kernel)) ggL_law_X8_first
set_option maxRecDepth 20000 in
theorem ggL_law_X9_first : GoodIn wsL_law wsX9_first := goodIn_r _ [643, 127, 128, 621, 622, 5, 623, 199, 200, 201, 170, 171, 172, 173, 132, 855, 856, 857, 858, 859, 860, 861, 862, 863, 864, 865, 866, 867, 868, 869, 870, 871, 872, 873, 874, 875, 876, 877, 878, 879, 880, 881, 882, 883, 884, 885, 886] (by decide +kernel) (by decide +kernel)
set_option maxRecDepth 20000 in
theorem gL_law_X9_first : GoodIn wsL_law (wsV RL 94 RX9 yX9_first wsX9_first) := goodIn_app (goodIn_of _ (by decide +kernel)) ggL_law_X9_first
set_option maxRecDepth 20000 in
theorem ggL_law_X8_marks : GoodIn wsL_law wsX8_marks := goodIn_r _ [647, 27, 648, 649, 650, 26, 651, 79, 652, 653, 654, 655, 656, 657, 658, 844, 845, 846, 847, 848, 849, 850, 851, 852, 853, 854, 902, 903] (by decide +kernel) (by decide +kernel)
set_option maxRecDepth 20000 in
theorem gL_law_X8_marks : GoodIn wsL_law (wsV RL 95 RX8 yX8_marks wsX8_marks) := goodIn_app (goodIn_of _ (by decide +kernel)) ggL_law_X8_marks
set_option maxRecDepth 20000 in
theorem ggL_law_X9_marks : GoodIn wsL_law wsX9_marks := goodIn_r _ [662, 127, 855, 856, 857, 858, 859, 860, 861, 862, 863, 864, 865, 866, 867, 868, 869, 870, 871, 872, 873, 874, 875, 876, 877, 878, 879, 880, 881, 882, 883, 884, 885, 886] (by decide +kernel) (by decide +kernel)
set_option maxRecDepth 20000 in
theorem gL_law_X9_marks : GoodIn wsL_law (wsV RL 98 RX9 yX9_marks wsX9_marks) := goodIn_app (goodIn_of _ (by decide +kernel)) ggL_law_X9_marks
set_option maxRecDepth 20000 in
theorem ggL_law_X8_see : GoodIn wsL_law wsX8_see := goodIn_r _ [666, 27, 615, 542, 26, 543, 146, 147, 148, 2, 149, 45, 616, 545, 546, 547, 79, 667, 538, 539, 540, 80, 541, 544, 668, 669, 670, 671, 672, 844, 845, 846, 847, 848, 849, 850, 851, 852, 853, 854, 902, 903] (by decide +kernel) (by decide +kernel)
set_option maxRecDepth 20000 in
theorem gL_law_X8_see : GoodIn wsL_law (wsV RL 99 RX8 yX8_see wsX8_see) := goodIn_app (goodIn_of _ (by decide +kernel)) ggL_law_X8_see
set_option maxRecDepth 20000 in
theorem ggL_law_X9_see : GoodIn wsL_law wsX9_see := goodIn_r _ [676, 127, 128, 621, 622, 5, 623, 199, 200, 201, 170, 171, 172, 173, 132, 855, 856, 857, 858, 859, 860, 861, 862, 863, 864, 865, 866, 867, 868, 869, 870, 871, 872, 873, 874, 875, 876, 877, 878, 879, 880, 881, 882, 883, 884, 885, 886] (by decide +kernel) (by decide +kernel)
set_option maxRecDepth 20000 in
theorem gL_law_X9_see : GoodIn wsL_law (wsV RL 103 RX9 yX9_see wsX9_see) := goodIn_app (goodIn_of _ (by decide +kernel)) ggL_law_X9_see
set_option maxRecDepth 20000 in
theorem ggL_law_X8_fault : GoodIn wsL_law wsX8_fault := goodIn_r _ [680, 19, 31, 146, 147, 148, 2, 149, 45, 681, 682, 683, 18, 684, 64, 685, 686, 687, 30, 688, 84, 85, 86, 844, 845, 846, 847, 848, 849, 850, 851, 852, 853, 854, 891, 892, 893, 894, 895, 896, 904, 905, 906] (by decide +kernel) (by decide +kernel)
set_option maxRecDepth 20000 in
theorem gL_law_X8_fault : GoodIn wsL_law (wsV RL 104 RX8 yX8_fault wsX8_fault) := goodIn_app (goodIn_of _ (by decide +kernel)) ggL_law_X8_fault
set_option maxRecDepth 20000 in
theorem ggL_law_X9_fault : GoodIn wsL_law wsX9_fault := goodIn_r _ [692, 391, 129, 199, 200, 5, 201, 170, 171, 172, 173, 132, 855, 856, 857, 858, 859, 860, 861, 862, 863, 864, 865, 866, 867, 868, 869, 870, 871, 872, 873, 874, 875, 876, 877, 878, 879, 880, 881, 882, 883, 884, 885, 886] (by decide +kernel) (by decide +kernel)
set_option maxRecDepth 20000 in
theorem gL_law_X9_fault : GoodIn wsL_law (wsV RL 107 RX9 yX9_fault wsX9_fault) := goodIn_app (goodIn_of _ (by decide +kernel)) ggL_law_X9_fault
set_option maxRecDepth 20000 in
theorem ggL_law_X8_mend : GoodIn wsL_law wsX8_mend := goodIn_r _ [696, 31, 697, 698, 699, 30, 700, 84, 85, 86, 701, 702, 703, 704, 844, 845, 846, 847, 848, 849, 850, 851, 852, 853, 854, 904, 905, 906] (by decide +kernel) (by decide +kernel)
set_option maxRecDepth 20000 in
theorem gL_law_X8_mend : GoodIn wsL_law (wsV RL 108 RX8 yX8_mend wsX8_mend) := goodIn_app (goodIn_of _ (by decide +kernel)) ggL_law_X8_mend
set_option maxRecDepth 20000 in
theorem ggL_law_X9_mend : GoodIn wsL_law wsX9_mend := goodIn_r _ [708, 129, 709, 710, 711, 5, 712, 855, 856, 857, 858, 859, 860, 861, 862, 863, 864, 865, 866, 867, 868, 869, 870, 871, 872, 873, 874, 875, 876, 877, 878, 879, 880, 881, 882, 883, 884, 885, 886] (by decide +kernel) (by decide +kernel)
set_option maxRecDepth 20000 in
theorem gL_law_X9_mend : GoodIn wsL_law (wsV RL 111 RX9 yX9_mend wsX9_mend) := goodIn_app (goodIn_of _ (by decide +kernel)) ggL_law_X9_mend
set_option maxRecDepth 20000 in
theorem ggL_law_X8_explained : GoodIn wsL_law wsX8_explained := goodIn_r _ [716, 19, 15, 39, 27, 146, 147, 148, 2, 149, 45, 458, 459, 460, 18, 461, 64, 63, 462, 363, 364, 365, 60, 61, 62, 366, 182, 183, 14, 184, 54, 717, 718, 719, 38, 720, 101, 102, 105, 721, 722, 723, 724, 98, 100, 104, 103, 725, 702, 703, 30, 704, 84, 85, 86, 726, 686, 687, 688, 727, 159, 160, 26, 161, 79, 162, 163, 164, 165, 728, 380, 381, 382, 729, 472, 473, 474, 730, 151, 152, 153, 56, 731, 491, 492, 34, 493, 494, 495, 496, 497, 92, 498, 499, 500, 501, 502, 503, 504, 505, 91, 506, 231, 232, 233, 52, 507, 508, 509, 510, 511, 512, 513, 514, 515, 516, 517, 518, 519, 409, 410, 411, 65, 520, 521, 522, 523, 524, 525, 526, 527, 528, 529, 530, 531, 532, 533, 534, 535, 536, 484, 330, 485, 537, 538, 539, 540, 80, 541, 542, 543, 544, 545, 546, 547, 548, 549, 550, 551, 329, 331, 552, 333, 334, 553, 554, 555, 556, 557, 558, 559, 732, 733, 734, 735, 672, 736, 682, 683, 684, 737, 738, 739, 740, 741, 742, 743, 744, 844, 845, 846, 847, 848, 849, 850, 851, 852, 853, 854, 891, 892, 893, 894, 895, 896, 887, 888, 889, 890, 909, 910, 911, 912, 913, 914, 915, 904, 905, 906, 902, 903, 907, 908] (by decide +kernel) (by decide +kernel)
set_option maxRecDepth 20000 in
theorem gL_law_X8_explained : GoodIn wsL_law (wsV RL 112 RX8 yX8_explained wsX8_explained) := goodIn_app (goodIn_of _ (by decide +kernel)) ggL_law_X8_explained
set_option maxRecDepth 20000 in
theorem ggL_law_X9_explained : GoodIn wsL_law wsX9_explained := goodIn_r _ [748, 749, 199, 200, 5, 201, 170, 171, 172, 173, 132, 570, 571, 572, 573, 391, 124, 371, 372, 373, 374, 119, 121, 122, 123, 750, 751, 752, 753, 754, 755, 756, 757, 118, 565, 127, 136, 574, 575, 576, 577, 578, 579, 580, 581, 582, 583, 137, 584, 585, 586, 587, 588, 589, 590, 591, 592, 593, 594, 595, 120, 596, 597, 598, 599, 125, 600, 601, 602, 603, 604, 605, 606, 607, 608, 609, 610, 855, 856, 857, 858, 859, 860, 861, 862, 863, 864, 865, 866, 867, 868, 869, 870, 871, 872, 873, 874, 875, 876, 877, 878, 879, 880, 881, 882, 883, 884, 885, 886] (by decide +kernel) (by decide +kernel)
set_option maxRecDepth 20000 in
theorem gL_law_X9_explained : GoodIn wsL_law (wsV RL 115 RX9 yX9_explained wsX9_explained) := goodIn_app (goodIn_of _ (by decide +kernel)) ggL_law_X9_explained
set_option maxRecDepth 20000 in
theorem ggL_law_X8_made : GoodIn wsL_law wsX8_made := goodIn_r _ [761, 43, 15, 762, 763, 764, 2, 765, 206, 207, 208, 209, 178, 179, 180, 181, 182, 183, 14, 184, 54, 146, 147, 148, 149, 45, 766, 767, 768, 42, 769, 112, 150, 151, 152, 153, 56, 770, 771, 772, 773, 111, 113, 774, 775, 776, 777, 778, 190, 164, 191, 779, 780, 231, 232, 233, 52, 844, 845, 846, 847, 848, 849, 850, 851, 852, 853, 854, 887, 888, 889, 890, 916, 917, 918] (by decide +kernel) (by decide +kernel)
set_option maxRecDepth 20000 in
theorem gL_law_X8_made : GoodIn wsL_law (wsV RL 116 RX8 yX8_made wsX8_made) := goodIn_app (goodIn_of _ (by decide +kernel)) ggL_law_X8_made
set_option maxRecDepth 20000 in
theorem ggL_law_X9_made : GoodIn wsL_law wsX9_made := goodIn_r _ [784, 119, 131, 118, 130, 196, 197, 5, 198, 199, 200, 201, 170, 171, 172, 173, 132, 785, 786, 787, 788, 120, 855, 856, 857, 858, 859, 860, 861, 862, 863, 864, 865, 866, 867, 868, 869, 870, 871, 872, 873, 874, 875, 876, 877, 878, 879, 880, 881, 882, 883, 884, 885, 886] (by decide +kernel) (by decide +kernel)
set_option maxRecDepth 20000 in
theorem gL_law_X9_made : GoodIn wsL_law (wsV RL 119 RX9 yX9_made wsX9_made) := goodIn_app (goodIn_of _ (by decide +kernel)) ggL_law_X9_made
set_option maxRecDepth 20000 in
theorem ggL_law_X8_like : GoodIn wsL_law wsX8_like := goodIn_r _ [792, 43, 15, 762, 763, 764, 2, 765, 206, 207, 208, 209, 178, 179, 180, 181, 182, 183, 14, 184, 54, 146, 147, 148, 149, 45, 766, 767, 768, 42, 769, 112, 793, 794, 795, 796, 113, 111, 797, 329, 330, 331, 774, 775, 776, 777, 778, 190, 164, 191, 779, 151, 152, 153, 56, 780, 231, 232, 233, 52, 844, 845, 846, 847, 848, 849, 850, 851, 852, 853, 854, 887, 888, 889, 890, 916, 917, 918] (by decide +kernel) (by decide +kernel)
set_option maxRecDepth 20000 in
theorem gL_law_X8_like : GoodIn wsL_law (wsV RL 120 RX8 yX8_like wsX8_like) := goodIn_app (goodIn_of _ (by decide +kernel)) ggL_law_X8_like
set_option maxRecDepth 20000 in
theorem ggL_law_X9_like : GoodIn wsL_law wsX9_like := goodIn_r _ [801, 119, 131, 196, 197, 5, 198, 199, 200, 201, 170, 171, 172, 173, 132, 802, 803, 804, 805, 130, 118, 785, 786, 787, 788, 120, 855, 856, 857, 858, 859, 860, 861, 862, 863, 864, 865, 866, 867, 868, 869, 870, 871, 872, 873, 874, 875, 876, 877, 878, 879, 880, 881, 882, 883, 884, 885, 886] (by decide +kernel) (by decide +kernel)
set_option maxRecDepth 20000 in
theorem gL_law_X9_like : GoodIn wsL_law (wsV RL 123 RX9 yX9_like wsX9_like) := goodIn_app (goodIn_of _ (by decide +kernel)) ggL_law_X9_like
set_option maxRecDepth 20000 in
theorem ggL_law_X8_whose : GoodIn wsL_law wsX8_whose := goodIn_r _ [809, 43, 15, 206, 207, 208, 2, 209, 178, 179, 180, 181, 182, 183, 14, 184, 54, 146, 147, 148, 149, 45, 810, 811, 812, 42, 813, 112, 814, 794, 795, 796, 113, 111, 797, 329, 330, 331, 774, 775, 776, 777, 778, 190, 164, 191, 779, 151, 152, 153, 56, 780, 231, 232, 233, 52, 844, 845, 846, 847, 848, 849, 850, 851, 852, 853, 854, 887, 888, 889, 890, 916, 917, 918] (by decide +kernel) (by decide +kernel)
set_option maxRecDepth 20000 in
theorem gL_law_X8_whose : GoodIn wsL_law (wsV RL 124 RX8 yX8_whose wsX8_whose) := goodIn_app (goodIn_of _ (by decide +kernel)) ggL_law_X8_whose
set_option maxRecDepth 20000 in
theorem ggL_law_X9_whose : GoodIn wsL_law wsX9_whose := goodIn_r _ [818, 131, 218, 219, 220, 5, 221, 119, 196, 197, 198, 199, 200, 201, 170, 171, 172, 173, 132, 802, 803, 804, 805, 130, 118, 785, 786, 787, 788, 120, 855, 856, 857, 858, 859, 860, 861, 862, 863, 864, 865, 866, 867, 868, 869, 870, 871, 872, 873, 874, 875, 876, 877, 878, 879, 880, 881, 882, 883, 884, 885, 886] (by decide +kernel) (by decide +kernel)
set_option maxRecDepth 20000 in
theorem gL_law_X9_whose : GoodIn wsL_law (wsV RL 127 RX9 yX9_whose wsX9_whose) := goodIn_app (goodIn_of _ (by decide +kernel)) ggL_law_X9_whose
set_option maxRecDepth 20000 in
theorem ggL_law_X8_count : GoodIn wsL_law wsX8_count := goodIn_r _ [822, 15, 19, 23, 46, 47, 31, 150, 151, 152, 14, 153, 56, 823, 824, 825, 826, 54, 379, 380, 381, 18, 382, 64, 444, 445, 446, 22, 447, 69, 827, 480, 481, 482, 73, 483, 484, 330, 485, 828, 829, 830, 831, 71, 832, 833, 834, 835, 72, 463, 464, 465, 466, 697, 698, 699, 30, 700, 84, 85, 86, 836, 837, 838, 2, 839, 45, 844, 845, 846, 847, 848, 849, 850, 851, 852, 853, 854, 887, 888, 889, 890, 891, 892, 893, 894, 895, 896, 897, 898, 899, 900, 901, 904, 905, 906] (by decide +kernel) (by decide +kernel)
set_option maxRecDepth 20000 in
theorem gL_law_X8_count : GoodIn wsL_law (wsV RL 128 RX8 yX8_count wsX8_count) := goodIn_app (goodIn_of _ (by decide +kernel)) ggL_law_X8_count
set_option maxRecDepth 20000 in
theorem ggL_law_X9_count : GoodIn wsL_law wsX9_count := goodIn_r _ [843, 118, 119, 391, 453, 566, 452, 567, 568, 564, 569, 132, 709, 710, 711, 5, 712, 129, 199, 200, 201, 855, 856, 857, 858, 859, 860, 861, 862, 863, 864, 865, 866, 867, 868, 869, 870, 871, 872, 873, 874, 875, 876, 877, 878, 879, 880, 881, 882, 883, 884, 885, 886] (by decide +kernel) (by decide +kernel)
set_option maxRecDepth 20000 in
theorem gL_law_X9_count : GoodIn wsL_law (wsV RL 131 RX9 yX9_count wsX9_count) := goodIn_app (goodIn_of _ (by decide +kernel)) ggL_law_X9_count
theorem dL_law_0 : decode cL_law 0 = .ok (.new 7, 3) := by decide +kernel
theorem dL_law_3 : decode cL_law 3 = .ok (.dup, 1) := by decide +kernel
theorem dL_law_4 : decode cL_law 4 = .ok (.invokespecial 9, 3) := by decide +kernel
theorem dL_law_7 : decode cL_law 7 = .ok (.astore_n 1, 1) := by decide +kernel
theorem dL_law_8 : decode cL_law 8 = .ok (.new 10, 3) := by decide +kernel
theorem dL_law_11 : decode cL_law 11 = .ok (.dup, 1) := by decide +kernel
theorem dL_law_12 : decode cL_law 12 = .ok (.invokespecial 12, 3) := by decide +kernel
theorem dL_law_15 : decode cL_law 15 = .ok (.astore_n 2, 1) := by decide +kernel
theorem dL_law_16 : decode cL_law 16 = .ok (.iconst 0, 1) := by decide +kernel
theorem dL_law_17 : decode cL_law 17 = .ok (.istore_n 3, 1) := by decide +kernel
theorem dL_law_18 : decode cL_law 18 = .ok (.iload_n 3, 1) := by decide +kernel
theorem dL_law_19 : decode cL_law 19 = .ok (.aload_n 0, 1) := by decide +kernel
theorem dL_law_20 : decode cL_law 20 = .ok (.arraylength, 1) := by decide +kernel
theorem dL_law_21 : decode cL_law 21 = .ok (.bipush 6, 2) := by decide +kernel
theorem dL_law_23 : decode cL_law 23 = .ok (.isub, 1) := by decide +kernel
theorem dL_law_24 : decode cL_law 24 = .ok (.if_icmp .gt 952, 3) := by decide +kernel
theorem dL_law_27 : decode cL_law 27 = .ok (.aload_n 0, 1) := by decide +kernel
theorem dL_law_28 : decode cL_law 28 = .ok (.iload_n 3, 1) := by decide +kernel
theorem dL_law_29 : decode cL_law 29 = .ok (.iaload, 1) := by decide +kernel
theorem dL_law_30 : decode cL_law 30 = .ok (.bipush 31, 2) := by decide +kernel
theorem dL_law_32 : decode cL_law 32 = .ok (.iand, 1) := by decide +kernel
theorem dL_law_33 : decode cL_law 33 = .ok (.tableswitch 937 0 27 #[127, 150, 173, 196, 239, 272, 335, 368, 381, 414, 467, 490, 513, 526, 549, 572, 595, 608, 641, 684, 697, 756, 789, 802, 825, 858, 891, 914], 127) := by decide +kernel
theorem dL_law_160 : decode cL_law 160 = .ok (.aload_n 1, 1) := by decide +kernel
theorem dL_law_161 : decode cL_law 161 = .ok (.aload_n 0, 1) := by decide +kernel
theorem dL_law_162 : decode cL_law 162 = .ok (.iload_n 3, 1) := by decide +kernel
theorem dL_law_163 : decode cL_law 163 = .ok (.iconst 1, 1) := by decide +kernel
theorem dL_law_164 : decode cL_law 164 = .ok (.iadd, 1) := by decide +kernel
theorem dL_law_165 : decode cL_law 165 = .ok (.iaload, 1) := by decide +kernel
theorem dL_law_166 : decode cL_law 166 = .ok (.invokevirtual 13, 3) := by decide +kernel
theorem dL_law_169 : decode cL_law 169 = .ok (.aload_n 2, 1) := by decide +kernel
theorem dL_law_170 : decode cL_law 170 = .ok (.aload_n 0, 1) := by decide +kernel
theorem dL_law_171 : decode cL_law 171 = .ok (.iload_n 3, 1) := by decide +kernel
theorem dL_law_172 : decode cL_law 172 = .ok (.iconst 1, 1) := by decide +kernel
theorem dL_law_173 : decode cL_law 173 = .ok (.iadd, 1) := by decide +kernel
theorem dL_law_174 : decode cL_law 174 = .ok (.iaload, 1) := by decide +kernel
theorem dL_law_175 : decode cL_law 175 = .ok (.invokevirtual 17, 3) := by decide +kernel
theorem dL_law_178 : decode cL_law 178 = .ok (.if_icmp .eq 792, 3) := by decide +kernel
theorem dL_law_181 : decode cL_law 181 = .ok (.iconst 0, 1) := by decide +kernel
theorem dL_law_182 : decode cL_law 182 = .ok (.ireturn, 1) := by decide +kernel
theorem dL_law_183 : decode cL_law 183 = .ok (.aload_n 1, 1) := by decide +kernel
theorem dL_law_184 : decode cL_law 184 = .ok (.aload_n 0, 1) := by decide +kernel
theorem dL_law_185 : decode cL_law 185 = .ok (.iload_n 3, 1) := by decide +kernel
theorem dL_law_186 : decode cL_law 186 = .ok (.iconst 1, 1) := by decide +kernel
theorem dL_law_187 : decode cL_law 187 = .ok (.iadd, 1) := by decide +kernel
theorem dL_law_188 : decode cL_law 188 = .ok (.iaload, 1) := by decide +kernel
theorem dL_law_189 : decode cL_law 189 = .ok (.invokevirtual 18, 3) := by decide +kernel
theorem dL_law_192 : decode cL_law 192 = .ok (.aload_n 2, 1) := by decide +kernel
theorem dL_law_193 : decode cL_law 193 = .ok (.aload_n 0, 1) := by decide +kernel
theorem dL_law_194 : decode cL_law 194 = .ok (.iload_n 3, 1) := by decide +kernel
theorem dL_law_195 : decode cL_law 195 = .ok (.iconst 1, 1) := by decide +kernel
theorem dL_law_196 : decode cL_law 196 = .ok (.iadd, 1) := by decide +kernel
theorem dL_law_197 : decode cL_law 197 = .ok (.iaload, 1) := by decide +kernel
theorem dL_law_198 : decode cL_law 198 = .ok (.invokevirtual 21, 3) := by decide +kernel
theorem dL_law_201 : decode cL_law 201 = .ok (.if_icmp .eq 769, 3) := by decide +kernel
theorem dL_law_204 : decode cL_law 204 = .ok (.iconst 0, 1) := by decide +kernel
theorem dL_law_205 : decode cL_law 205 = .ok (.ireturn, 1) := by decide +kernel
theorem dL_law_206 : decode cL_law 206 = .ok (.aload_n 1, 1) := by decide +kernel
theorem dL_law_207 : decode cL_law 207 = .ok (.aload_n 0, 1) := by decide +kernel
theorem dL_law_208 : decode cL_law 208 = .ok (.iload_n 3, 1) := by decide +kernel
theorem dL_law_209 : decode cL_law 209 = .ok (.iconst 1, 1) := by decide +kernel
theorem dL_law_210 : decode cL_law 210 = .ok (.iadd, 1) := by decide +kernel
theorem dL_law_211 : decode cL_law 211 = .ok (.iaload, 1) := by decide +kernel
theorem dL_law_212 : decode cL_law 212 = .ok (.invokevirtual 22, 3) := by decide +kernel
theorem dL_law_215 : decode cL_law 215 = .ok (.aload_n 2, 1) := by decide +kernel
theorem dL_law_216 : decode cL_law 216 = .ok (.aload_n 0, 1) := by decide +kernel
theorem dL_law_217 : decode cL_law 217 = .ok (.iload_n 3, 1) := by decide +kernel
theorem dL_law_218 : decode cL_law 218 = .ok (.iconst 1, 1) := by decide +kernel
theorem dL_law_219 : decode cL_law 219 = .ok (.iadd, 1) := by decide +kernel
theorem dL_law_220 : decode cL_law 220 = .ok (.iaload, 1) := by decide +kernel
theorem dL_law_221 : decode cL_law 221 = .ok (.invokevirtual 25, 3) := by decide +kernel
theorem dL_law_224 : decode cL_law 224 = .ok (.if_icmp .eq 746, 3) := by decide +kernel
theorem dL_law_227 : decode cL_law 227 = .ok (.iconst 0, 1) := by decide +kernel
theorem dL_law_228 : decode cL_law 228 = .ok (.ireturn, 1) := by decide +kernel
theorem dL_law_229 : decode cL_law 229 = .ok (.aload_n 1, 1) := by decide +kernel
theorem dL_law_230 : decode cL_law 230 = .ok (.aload_n 0, 1) := by decide +kernel
theorem dL_law_231 : decode cL_law 231 = .ok (.iload_n 3, 1) := by decide +kernel
theorem dL_law_232 : decode cL_law 232 = .ok (.iconst 1, 1) := by decide +kernel
theorem dL_law_233 : decode cL_law 233 = .ok (.iadd, 1) := by decide +kernel
theorem dL_law_234 : decode cL_law 234 = .ok (.iaload, 1) := by decide +kernel
theorem dL_law_235 : decode cL_law 235 = .ok (.aload_n 0, 1) := by decide +kernel
theorem dL_law_236 : decode cL_law 236 = .ok (.iload_n 3, 1) := by decide +kernel
theorem dL_law_237 : decode cL_law 237 = .ok (.iconst 2, 1) := by decide +kernel
theorem dL_law_238 : decode cL_law 238 = .ok (.iadd, 1) := by decide +kernel
theorem dL_law_239 : decode cL_law 239 = .ok (.iaload, 1) := by decide +kernel
theorem dL_law_240 : decode cL_law 240 = .ok (.aload_n 0, 1) := by decide +kernel
theorem dL_law_241 : decode cL_law 241 = .ok (.iload_n 3, 1) := by decide +kernel
theorem dL_law_242 : decode cL_law 242 = .ok (.iconst 3, 1) := by decide +kernel
theorem dL_law_243 : decode cL_law 243 = .ok (.iadd, 1) := by decide +kernel
theorem dL_law_244 : decode cL_law 244 = .ok (.iaload, 1) := by decide +kernel
theorem dL_law_245 : decode cL_law 245 = .ok (.invokevirtual 26, 3) := by decide +kernel
theorem dL_law_248 : decode cL_law 248 = .ok (.aload_n 2, 1) := by decide +kernel
theorem dL_law_249 : decode cL_law 249 = .ok (.aload_n 0, 1) := by decide +kernel
theorem dL_law_250 : decode cL_law 250 = .ok (.iload_n 3, 1) := by decide +kernel
theorem dL_law_251 : decode cL_law 251 = .ok (.iconst 1, 1) := by decide +kernel
theorem dL_law_252 : decode cL_law 252 = .ok (.iadd, 1) := by decide +kernel
theorem dL_law_253 : decode cL_law 253 = .ok (.iaload, 1) := by decide +kernel
theorem dL_law_254 : decode cL_law 254 = .ok (.aload_n 0, 1) := by decide +kernel
theorem dL_law_255 : decode cL_law 255 = .ok (.iload_n 3, 1) := by decide +kernel
theorem dL_law_256 : decode cL_law 256 = .ok (.iconst 2, 1) := by decide +kernel
theorem dL_law_257 : decode cL_law 257 = .ok (.iadd, 1) := by decide +kernel
theorem dL_law_258 : decode cL_law 258 = .ok (.iaload, 1) := by decide +kernel
theorem dL_law_259 : decode cL_law 259 = .ok (.aload_n 0, 1) := by decide +kernel
theorem dL_law_260 : decode cL_law 260 = .ok (.iload_n 3, 1) := by decide +kernel
theorem dL_law_261 : decode cL_law 261 = .ok (.iconst 3, 1) := by decide +kernel
theorem dL_law_262 : decode cL_law 262 = .ok (.iadd, 1) := by decide +kernel
theorem dL_law_263 : decode cL_law 263 = .ok (.iaload, 1) := by decide +kernel
theorem dL_law_264 : decode cL_law 264 = .ok (.invokevirtual 30, 3) := by decide +kernel
theorem dL_law_267 : decode cL_law 267 = .ok (.if_icmp .eq 703, 3) := by decide +kernel
theorem dL_law_270 : decode cL_law 270 = .ok (.iconst 0, 1) := by decide +kernel
theorem dL_law_271 : decode cL_law 271 = .ok (.ireturn, 1) := by decide +kernel
theorem dL_law_272 : decode cL_law 272 = .ok (.aload_n 1, 1) := by decide +kernel
theorem dL_law_273 : decode cL_law 273 = .ok (.aload_n 0, 1) := by decide +kernel
theorem dL_law_274 : decode cL_law 274 = .ok (.iload_n 3, 1) := by decide +kernel
theorem dL_law_275 : decode cL_law 275 = .ok (.iconst 1, 1) := by decide +kernel
theorem dL_law_276 : decode cL_law 276 = .ok (.iadd, 1) := by decide +kernel
theorem dL_law_277 : decode cL_law 277 = .ok (.iaload, 1) := by decide +kernel
theorem dL_law_278 : decode cL_law 278 = .ok (.aload_n 0, 1) := by decide +kernel
theorem dL_law_279 : decode cL_law 279 = .ok (.iload_n 3, 1) := by decide +kernel
theorem dL_law_280 : decode cL_law 280 = .ok (.iconst 2, 1) := by decide +kernel
theorem dL_law_281 : decode cL_law 281 = .ok (.iadd, 1) := by decide +kernel
theorem dL_law_282 : decode cL_law 282 = .ok (.iaload, 1) := by decide +kernel
theorem dL_law_283 : decode cL_law 283 = .ok (.invokevirtual 31, 3) := by decide +kernel
theorem dL_law_286 : decode cL_law 286 = .ok (.aload_n 2, 1) := by decide +kernel
theorem dL_law_287 : decode cL_law 287 = .ok (.aload_n 0, 1) := by decide +kernel
theorem dL_law_288 : decode cL_law 288 = .ok (.iload_n 3, 1) := by decide +kernel
theorem dL_law_289 : decode cL_law 289 = .ok (.iconst 1, 1) := by decide +kernel
theorem dL_law_290 : decode cL_law 290 = .ok (.iadd, 1) := by decide +kernel
theorem dL_law_291 : decode cL_law 291 = .ok (.iaload, 1) := by decide +kernel
theorem dL_law_292 : decode cL_law 292 = .ok (.aload_n 0, 1) := by decide +kernel
theorem dL_law_293 : decode cL_law 293 = .ok (.iload_n 3, 1) := by decide +kernel
theorem dL_law_294 : decode cL_law 294 = .ok (.iconst 2, 1) := by decide +kernel
theorem dL_law_295 : decode cL_law 295 = .ok (.iadd, 1) := by decide +kernel
theorem dL_law_296 : decode cL_law 296 = .ok (.iaload, 1) := by decide +kernel
theorem dL_law_297 : decode cL_law 297 = .ok (.invokevirtual 35, 3) := by decide +kernel
