set_option maxRecDepth 20000 in
theorem in_wsL_law_r13 : ∀ w ∈ wsL_law_r13, w ∈ lw_tbl := pos_in [358, 359, 360, 361, 362, 363, 364, 365, 366, 367, 368, 369, 370, 371, 372, 374, 4, 375, 886, 887, 888, 889, 890, 892] (by decide +kernel)
set_option maxRecDepth 20000 in
theorem in_wsL_law_r14 : ∀ w ∈ wsL_law_r14, w ∈ lw_tbl := pos_in [19, 893, 894, 896, 20, 897, 376, 377, 378, 379, 380, 381, 382, 383, 384, 385, 386, 387, 50, 388, 389, 390, 391, 898] (by decide +kernel)
set_option maxRecDepth 20000 in
theorem in_wsL_law_r15 : ∀ w ∈ wsL_law_r15, w ∈ lw_tbl := pos_in [899, 900, 901, 902, 904, 21, 905, 392, 393, 394, 395, 396, 397, 398, 399, 400, 401, 402, 906, 907, 908, 909, 403, 404] (by decide +kernel)
set_option maxRecDepth 20000 in
theorem in_wsL_law_r16 : ∀ w ∈ wsL_law_r16, w ∈ lw_tbl := pos_in [405, 406, 407, 408, 409, 410, 411, 910, 911, 912, 913, 914, 916, 22, 917, 412, 413, 414, 415, 416, 417, 418, 419, 420] (by decide +kernel)
set_option maxRecDepth 20000 in
theorem in_wsL_law_r17 : ∀ w ∈ wsL_law_r17, w ∈ lw_tbl := pos_in [421, 422, 423, 918, 919, 920, 921, 753, 424, 425, 426, 427, 428, 429, 430, 431, 922, 923, 924, 925, 432, 433, 434, 435] (by decide +kernel)
set_option maxRecDepth 20000 in
theorem in_wsL_law_r18 : ∀ w ∈ wsL_law_r18, w ∈ lw_tbl := pos_in [436, 437, 438, 439, 440, 441, 442, 443, 926, 927, 928, 929, 444, 445, 446, 447, 448, 449, 450, 451, 452, 453, 454, 455] (by decide +kernel)
set_option maxRecDepth 20000 in
theorem in_wsL_law_r19 : ∀ w ∈ wsL_law_r19, w ∈ lw_tbl := pos_in [930, 931, 932, 933, 456, 457, 458, 459, 460, 461, 462, 463, 464, 465, 466, 467, 934, 935, 936, 937, 759, 756, 468, 469] (by decide +kernel)
set_option maxRecDepth 20000 in
theorem in_wsL_law_r20 : ∀ w ∈ wsL_law_r20, w ∈ lw_tbl := pos_in [470, 471, 472, 473, 474, 475, 476, 477, 478, 479, 480, 481, 483, 5, 484, 485, 486, 487, 488, 489, 490, 491, 492, 493] (by decide +kernel)
set_option maxRecDepth 20000 in
theorem in_wsL_law_r21 : ∀ w ∈ wsL_law_r21, w ∈ lw_tbl := pos_in [494, 495, 496, 497, 498, 499, 500, 502, 6, 503, 504, 505, 506, 507, 508, 510, 7, 511, 512, 513, 514, 515, 516, 518] (by decide +kernel)
set_option maxRecDepth 20000 in
theorem in_wsL_law_r22 : ∀ w ∈ wsL_law_r22, w ∈ lw_tbl := pos_in [8, 519, 520, 521, 522, 523, 524, 525, 527, 9, 528, 529, 530, 531, 532, 533, 534, 535, 536, 537, 538, 540, 10, 541] (by decide +kernel)
set_option maxRecDepth 20000 in
theorem in_wsL_law_r23 : ∀ w ∈ wsL_law_r23, w ∈ lw_tbl := pos_in [542, 543, 544, 545, 546, 547, 548, 549, 550, 551, 552, 553, 554, 555, 556, 557, 558, 559, 560, 561, 562, 563, 564, 565] (by decide +kernel)
set_option maxRecDepth 20000 in
theorem in_wsL_law_r24 : ∀ w ∈ wsL_law_r24, w ∈ lw_tbl := pos_in [566, 567, 568, 569, 570, 571, 50, 572, 938, 939, 940, 941, 762, 774, 758, 760, 761, 763, 942, 944, 23, 945, 946, 948] (by decide +kernel)
