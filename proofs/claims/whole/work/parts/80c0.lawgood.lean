set_option maxRecDepth 100000 in
theorem ggL_law_X8_init : GoodIn wsL_law wsX8_init := goodIn_r _ [8, 9, 10, 11, 12, 13, 14, 15, 16, 17, 18, 19, 20, 21, 22, 23, 24, 25, 26, 27, 28, 29, 30, 31, 32, 33, 34, 35, 36, 37, 38, 39, 40, 41, 42, 43, 44, 45, 46, 47, 48, 49, 50, 51, 52, 53, 54, 55, 56, 57, 58, 59, 60, 61, 62, 63, 854, 855, 856, 857, 858, 897, 898, 899, 900, 901, 902, 903, 904, 905, 906, 907, 908, 909, 910, 911, 912, 913, 914, 915, 916, 917, 918, 919, 920, 921] rfl (by decide +kernel)
set_option maxRecDepth 100000 in
theorem gL_law_X8_init : GoodIn wsL_law (wsX8_init) := ggL_law_X8_init
set_option maxRecDepth 100000 in
theorem ggL_law_X9_init : GoodIn wsL_law wsX9_init := goodIn_r _ [66, 67, 10, 11, 47, 68, 69, 70, 71, 72, 73, 74, 75, 76, 77, 78, 79, 80, 81, 82, 83, 84, 85, 86, 87, 88, 89, 90, 91, 92, 93, 94, 95, 859, 860, 861, 862, 863, 864, 865, 866, 867, 868, 869, 870, 871, 872, 873, 874, 875, 876, 877, 878, 879, 880, 881, 882, 883, 884, 885, 886, 887, 888, 889, 890, 891, 892, 893, 894, 895, 896] rfl (by decide +kernel)
set_option maxRecDepth 100000 in
theorem gL_law_X9_init : GoodIn wsL_law (wsX9_init) := ggL_law_X9_init
set_option maxRecDepth 100000 in
theorem ggL_law_X8_steppe : GoodIn wsL_law wsX8_steppe := goodIn_r _ [99, 100, 21, 101, 102, 103, 2, 104, 13, 105, 106, 107, 108, 27, 109, 110, 63, 111, 112, 113, 114, 115, 116, 117, 118, 119, 120, 121, 122, 123, 124, 20, 125, 126, 127, 128, 62, 129, 130, 131, 132, 133, 134, 135, 136, 137, 138, 139, 140, 141, 142, 143, 35, 39, 40, 41, 42, 144, 145, 146, 147, 148, 149, 150, 151, 152, 153, 154, 34, 155, 156, 157, 158, 159, 160, 161, 162, 163, 10, 11, 164, 165, 166, 167, 38, 168, 169, 170, 854, 855, 856, 857, 858, 898, 899, 900, 901, 902, 903, 904, 905, 916, 917, 918, 922, 923, 924, 925, 926, 927, 928, 929, 930, 919, 920, 921] rfl (by decide +kernel)
set_option maxRecDepth 100000 in
theorem gL_law_X8_steppe : GoodIn wsL_law (wsV RL 13 RX8 yX8_steppe wsX8_steppe) := goodIn_app (goodIn_of _ (by decide +kernel)) ggL_law_X8_steppe
set_option maxRecDepth 100000 in
theorem ggL_law_X9_steppe : GoodIn wsL_law wsX9_steppe := goodIn_r _ [174, 175, 176, 177, 178, 68, 71, 69, 72, 70, 73, 179, 180, 181, 182, 183, 184, 185, 186, 5, 187, 188, 189, 190, 191, 192, 193, 194, 195, 196, 197, 198, 199, 200, 92, 93, 201, 202, 203, 204, 205, 206, 207, 208, 209, 210, 211, 212, 213, 214, 215, 94, 216, 217, 218, 219, 220, 221, 222, 223, 859, 860, 861, 862, 863, 864, 865, 866, 867, 868, 869, 870, 871, 872, 873, 874, 875, 876, 877, 878, 879, 880, 881, 882, 883, 884, 885, 886, 887, 888, 889, 890, 891, 892, 893, 894, 895, 896] rfl (by decide +kernel)
set_option maxRecDepth 100000 in
theorem gL_law_X9_steppe : GoodIn wsL_law (wsV RL 17 RX9 yX9_steppe wsX9_steppe) := goodIn_app (goodIn_of _ (by decide +kernel)) ggL_law_X9_steppe
set_option maxRecDepth 100000 in
theorem ggL_law_X8_ofPerson : GoodIn wsL_law wsX8_ofPerson := goodIn_r _ [227, 21, 228, 20, 229, 230, 143, 35, 106, 2, 107, 231, 232, 233, 234, 235, 154, 236, 237, 238, 239, 151, 240, 241, 242, 243, 156, 244, 245, 246, 247, 248, 249, 250, 251, 252, 253, 165, 254, 255, 256, 257, 258, 259, 260, 261, 262, 263, 264, 854, 855, 856, 857, 858, 925, 926, 927, 922, 923, 924, 928, 929, 930, 898, 899, 900, 901, 902, 903, 904, 905] rfl (by decide +kernel)
set_option maxRecDepth 100000 in
theorem gL_law_X8_ofPerson : GoodIn wsL_law (wsV RL 18 RX8 yX8_ofPerson wsX8_ofPerson) := goodIn_app (goodIn_of _ (by decide +kernel)) ggL_law_X8_ofPerson
set_option maxRecDepth 100000 in
theorem ggL_law_X9_ofPerson : GoodIn wsL_law wsX9_ofPerson := goodIn_r _ [268, 68, 69, 70, 179, 269, 270, 271, 5, 272, 178, 189, 190, 191, 273, 274, 275, 276, 277, 278, 279, 859, 860, 861, 862, 863, 864, 865, 866, 867, 868, 869, 870, 871, 872, 873, 874, 875, 876, 877, 878, 879, 880, 881, 882, 883, 884, 885, 886, 887, 888, 889, 890, 891, 892, 893, 894, 895, 896] rfl (by decide +kernel)
set_option maxRecDepth 100000 in
theorem gL_law_X9_ofPerson : GoodIn wsL_law (wsV RL 22 RX9 yX9_ofPerson wsX9_ofPerson) := goodIn_app (goodIn_of _ (by decide +kernel)) ggL_law_X9_ofPerson
set_option maxRecDepth 100000 in
theorem ggL_law_X8_tale : GoodIn wsL_law wsX8_tale := goodIn_r _ [283, 21, 105, 106, 2, 107, 228, 20, 229, 230, 143, 35, 284, 285, 286, 287, 288, 289, 290, 291, 38, 292, 293, 170, 46, 294, 295, 296, 297, 48, 298, 299, 300, 301, 854, 855, 856, 857, 858, 898, 899, 900, 901, 902, 903, 904, 905, 919, 920, 921] rfl (by decide +kernel)
set_option maxRecDepth 100000 in
theorem gL_law_X8_tale : GoodIn wsL_law (wsV RL 23 RX8 yX8_tale wsX8_tale) := goodIn_app (goodIn_of _ (by decide +kernel)) ggL_law_X8_tale
set_option maxRecDepth 100000 in
theorem ggL_law_X9_tale : GoodIn wsL_law wsX9_tale := goodIn_r _ [305, 181, 74, 75, 76, 78, 306, 307, 5, 308, 309, 189, 190, 191, 269, 270, 271, 272, 178, 310, 311, 312, 313, 859, 860, 861, 862, 863, 864, 865, 866, 867, 868, 869, 870, 871, 872, 873, 874, 875, 876, 877, 878, 879, 880, 881, 882, 883, 884, 885, 886, 887, 888, 889, 890, 891, 892, 893, 894, 895, 896] rfl (by decide +kernel)
set_option maxRecDepth 100000 in
theorem gL_law_X9_tale : GoodIn wsL_law (wsV RL 27 RX9 yX9_tale wsX9_tale) := goodIn_app (goodIn_of _ (by decide +kernel)) ggL_law_X9_tale
set_option maxRecDepth 100000 in
theorem ggL_law_X8_undo : GoodIn wsL_law wsX8_undo := goodIn_r _ [317, 21, 318, 38, 319, 320, 170, 321, 322, 323, 48, 324, 325, 326, 327, 328, 329, 330, 331, 298, 299, 300, 301, 106, 2, 107, 854, 855, 856, 857, 858, 898, 899, 900, 901, 902, 903, 904, 905, 919, 920, 921] rfl (by decide +kernel)
set_option maxRecDepth 100000 in
theorem gL_law_X8_undo : GoodIn wsL_law (wsV RL 28 RX8 yX8_undo wsX8_undo) := goodIn_app (goodIn_of _ (by decide +kernel)) ggL_law_X8_undo
set_option maxRecDepth 100000 in
theorem ggL_law_X9_undo : GoodIn wsL_law wsX9_undo := goodIn_r _ [335, 181, 184, 89, 88, 90, 91, 189, 190, 5, 191, 336, 337, 338, 339, 859, 860, 861, 862, 863, 864, 865, 866, 867, 868, 869, 870, 871, 872, 873, 874, 875, 876, 877, 878, 879, 880, 881, 882, 883, 884, 885, 886, 887, 888, 889, 890, 891, 892, 893, 894, 895, 896] rfl (by decide +kernel)
set_option maxRecDepth 100000 in
theorem gL_law_X9_undo : GoodIn wsL_law (wsV RL 32 RX9 yX9_undo wsX9_undo) := goodIn_app (goodIn_of _ (by decide +kernel)) ggL_law_X9_undo
set_option maxRecDepth 100000 in
theorem ggL_law_X8_move : GoodIn wsL_law wsX8_move := goodIn_r _ [343, 21, 228, 20, 229, 230, 143, 35, 106, 2, 107, 105, 284, 285, 286, 287, 288, 289, 290, 291, 38, 292, 293, 170, 46, 294, 295, 296, 297, 48, 298, 299, 300, 301, 854, 855, 856, 857, 858, 898, 899, 900, 901, 902, 903, 904, 905, 919, 920, 921] rfl (by decide +kernel)
set_option maxRecDepth 100000 in
theorem gL_law_X8_move : GoodIn wsL_law (wsV RL 33 RX8 yX8_move wsX8_move) := goodIn_app (goodIn_of _ (by decide +kernel)) ggL_law_X8_move
set_option maxRecDepth 100000 in
theorem ggL_law_X9_move : GoodIn wsL_law wsX9_move := goodIn_r _ [347, 182, 79, 80, 81, 269, 270, 271, 5, 272, 178, 189, 190, 191, 348, 349, 350, 175, 310, 311, 312, 313, 859, 860, 861, 862, 863, 864, 865, 866, 867, 868, 869, 870, 871, 872, 873, 874, 875, 876, 877, 878, 879, 880, 881, 882, 883, 884, 885, 886, 887, 888, 889, 890, 891, 892, 893, 894, 895, 896] rfl (by decide +kernel)
set_option maxRecDepth 100000 in
theorem gL_law_X9_move : GoodIn wsL_law (wsV RL 36 RX9 yX9_move wsX9_move) := goodIn_app (goodIn_of _ (by decide +kernel)) ggL_law_X9_move
set_option maxRecDepth 100000 in
theorem ggL_law_X8_unmove : GoodIn wsL_law wsX8_unmove := goodIn_r _ [354, 21, 318, 38, 319, 320, 170, 854, 855, 856, 857, 858, 898, 899, 900, 901, 902, 903, 904, 905, 919, 920, 921] rfl (by decide +kernel)
set_option maxRecDepth 100000 in
theorem gL_law_X8_unmove : GoodIn wsL_law (wsV RL 37 RX8 yX8_unmove wsX8_unmove) := goodIn_app (goodIn_of _ (by decide +kernel)) ggL_law_X8_unmove
set_option maxRecDepth 100000 in
theorem ggL_law_X9_unmove : GoodIn wsL_law wsX9_unmove := goodIn_r _ [358, 182, 189, 190, 5, 191, 859, 860, 861, 862, 863, 864, 865, 866, 867, 868, 869, 870, 871, 872, 873, 874, 875, 876, 877, 878, 879, 880, 881, 882, 883, 884, 885, 886, 887, 888, 889, 890, 891, 892, 893, 894, 895, 896] rfl (by decide +kernel)
set_option maxRecDepth 100000 in
theorem gL_law_X9_unmove : GoodIn wsL_law (wsV RL 40 RX9 yX9_unmove wsX9_unmove) := goodIn_app (goodIn_of _ (by decide +kernel)) ggL_law_X9_unmove
set_option maxRecDepth 100000 in
theorem ggL_law_X8_law : GoodIn wsL_law wsX8_law := goodIn_r _ [362, 21, 105, 106, 2, 107, 288, 20, 289, 290, 143, 854, 855, 856, 857, 858, 898, 899, 900, 901, 902, 903, 904, 905] rfl (by decide +kernel)
set_option maxRecDepth 100000 in
theorem gL_law_X8_law : GoodIn wsL_law (wsV RL 41 RX8 yX8_law wsX8_law) := goodIn_app (goodIn_of _ (by decide +kernel)) ggL_law_X8_law
set_option maxRecDepth 100000 in
theorem ggL_law_X9_law : GoodIn wsL_law wsX9_law := goodIn_r _ [366, 175, 178, 180, 189, 190, 5, 191, 859, 860, 861, 862, 863, 864, 865, 866, 867, 868, 869, 870, 871, 872, 873, 874, 875, 876, 877, 878, 879, 880, 881, 882, 883, 884, 885, 886, 887, 888, 889, 890, 891, 892, 893, 894, 895, 896] rfl (by decide +kernel)
set_option maxRecDepth 100000 in
theorem gL_law_X9_law : GoodIn wsL_law (wsV RL 44 RX9 yX9_law wsX9_law) := goodIn_app (goodIn_of _ (by decide +kernel)) ggL_law_X9_law
set_option maxRecDepth 100000 in
theorem ggL_law_X8_pay : GoodIn wsL_law wsX8_pay := goodIn_r _ [370, 21, 228, 20, 229, 230, 143, 35, 106, 2, 107, 262, 263, 264, 854, 855, 856, 857, 858, 898, 899, 900, 901, 902, 903, 904, 905] rfl (by decide +kernel)
set_option maxRecDepth 100000 in
theorem gL_law_X8_pay : GoodIn wsL_law (wsV RL 45 RX8 yX8_pay wsX8_pay) := goodIn_app (goodIn_of _ (by decide +kernel)) ggL_law_X8_pay
set_option maxRecDepth 100000 in
theorem ggL_law_X9_pay : GoodIn wsL_law wsX9_pay := goodIn_r _ [374, 179, 269, 270, 271, 5, 272, 178, 189, 190, 191, 277, 278, 279, 859, 860, 861, 862, 863, 864, 865, 866, 867, 868, 869, 870, 871, 872, 873, 874, 875, 876, 877, 878, 879, 880, 881, 882, 883, 884, 885, 886, 887, 888, 889, 890, 891, 892, 893, 894, 895, 896] rfl (by decide +kernel)
set_option maxRecDepth 100000 in
theorem gL_law_X9_pay : GoodIn wsL_law (wsV RL 49 RX9 yX9_pay wsX9_pay) := goodIn_app (goodIn_of _ (by decide +kernel)) ggL_law_X9_pay
set_option maxRecDepth 100000 in
theorem ggL_law_X8_parody : GoodIn wsL_law wsX8_parody := goodIn_r _ [378, 21, 299, 38, 300, 301, 170, 329, 330, 331, 48, 298, 106, 2, 107, 295, 296, 297, 854, 855, 856, 857, 858, 898, 899, 900, 901, 902, 903, 904, 905, 919, 920, 921] rfl (by decide +kernel)
set_option maxRecDepth 100000 in
theorem gL_law_X8_parody : GoodIn wsL_law (wsV RL 50 RX8 yX8_parody wsX8_parody) := goodIn_app (goodIn_of _ (by decide +kernel)) ggL_law_X8_parody
set_option maxRecDepth 100000 in
theorem ggL_law_X9_parody : GoodIn wsL_law wsX9_parody := goodIn_r _ [382, 78, 336, 337, 338, 5, 339, 181, 189, 190, 191, 859, 860, 861, 862, 863, 864, 865, 866, 867, 868, 869, 870, 871, 872, 873, 874, 875, 876, 877, 878, 879, 880, 881, 882, 883, 884, 885, 886, 887, 888, 889, 890, 891, 892, 893, 894, 895, 896] rfl (by decide +kernel)
set_option maxRecDepth 100000 in
theorem gL_law_X9_parody : GoodIn wsL_law (wsV RL 53 RX9 yX9_parody wsX9_parody) := goodIn_app (goodIn_of _ (by decide +kernel)) ggL_law_X9_parody
set_option maxRecDepth 100000 in
theorem ggL_law_X8_remembers : GoodIn wsL_law wsX8_remembers := goodIn_r _ [386, 21, 25, 228, 20, 229, 230, 143, 35, 106, 2, 107, 105, 284, 285, 286, 287, 288, 289, 290, 387, 388, 389, 390, 391, 24, 392, 393, 394, 395, 396, 58, 52, 53, 54, 56, 397, 245, 246, 247, 248, 154, 249, 250, 251, 252, 156, 253, 165, 254, 255, 151, 256, 257, 258, 259, 398, 261, 399, 400, 401, 402, 403, 404, 405, 406, 407, 408, 409, 55, 410, 411, 412, 413, 329, 38, 330, 331, 48, 298, 299, 300, 301, 170, 414, 415, 416, 417, 418, 419, 420, 421, 422, 423, 424, 425, 57, 426, 427, 428, 429, 430, 431, 432, 433, 263, 264, 434, 435, 436, 437, 438, 439, 440, 854, 855, 856, 857, 858, 898, 899, 900, 901, 902, 903, 904, 905, 906, 907, 908, 909, 910, 911, 912, 913, 914, 915, 925, 926, 927, 922, 923, 924, 928, 929, 930, 919, 920, 921] rfl (by decide +kernel)
set_option maxRecDepth 100000 in
theorem gL_law_X8_remembers : GoodIn wsL_law (wsV RL 54 RX8 yX8_remembers wsX8_remembers) := goodIn_app (goodIn_of _ (by decide +kernel)) ggL_law_X8_remembers
set_option maxRecDepth 100000 in
theorem ggL_law_X9_remembers : GoodIn wsL_law wsX9_remembers := goodIn_r _ [444, 181, 269, 270, 271, 5, 272, 178, 189, 190, 191, 310, 311, 312, 313, 445, 446, 447, 448, 449, 450, 451, 452, 82, 70, 83, 84, 453, 454, 455, 456, 182, 79, 81, 80, 75, 76, 457, 458, 459, 460, 85, 179, 461, 462, 463, 464, 465, 466, 467, 468, 273, 274, 275, 276, 69, 68, 469, 470, 471, 472, 180, 277, 278, 279, 859, 860, 861, 862, 863, 864, 865, 866, 867, 868, 869, 870, 871, 872, 873, 874, 875, 876, 877, 878, 879, 880, 881, 882, 883, 884, 885, 886, 887, 888, 889, 890, 891, 892, 893, 894, 895, 896] rfl (by decide +kernel)
set_option maxRecDepth 100000 in
theorem gL_law_X9_remembers : GoodIn wsL_law (wsV RL 57 RX9 yX9_remembers wsX9_remembers) := goodIn_app (goodIn_of _ (by decide +kernel)) ggL_law_X9_remembers
set_option maxRecDepth 100000 in
theorem ggL_law_X8_hearth : GoodIn wsL_law wsX8_hearth := goodIn_r _ [476, 21, 25, 228, 20, 229, 230, 143, 35, 106, 2, 107, 105, 284, 285, 286, 287, 288, 289, 290, 387, 388, 389, 390, 391, 24, 392, 393, 394, 395, 396, 58, 52, 53, 54, 56, 397, 245, 246, 247, 248, 154, 249, 250, 251, 252, 156, 253, 165, 254, 255, 151, 256, 257, 258, 259, 398, 261, 399, 400, 401, 402, 403, 404, 405, 406, 407, 408, 409, 55, 410, 411, 412, 413, 329, 38, 330, 331, 48, 298, 299, 300, 301, 170, 414, 415, 416, 417, 418, 419, 420, 421, 422, 423, 424, 425, 57, 426, 427, 428, 429, 430, 431, 432, 433, 263, 264, 434, 435, 436, 437, 477, 478, 479, 854, 855, 856, 857, 858, 898, 899, 900, 901, 902, 903, 904, 905, 906, 907, 908, 909, 910, 911, 912, 913, 914, 915, 925, 926, 927, 922, 923, 924, 928, 929, 930, 919, 920, 921] rfl (by decide +kernel)
set_option maxRecDepth 100000 in
theorem gL_law_X8_hearth : GoodIn wsL_law (wsV RL 58 RX8 yX8_hearth wsX8_hearth) := goodIn_app (goodIn_of _ (by decide +kernel)) ggL_law_X8_hearth
set_option maxRecDepth 100000 in
theorem ggL_law_X9_hearth : GoodIn wsL_law wsX9_hearth := goodIn_r _ [483, 82, 269, 270, 271, 5, 272, 178, 189, 190, 191, 310, 311, 312, 313, 445, 446, 447, 448, 449, 450, 451, 452, 70, 83, 84, 453, 454, 455, 456, 182, 79, 81, 80, 181, 75, 76, 457, 458, 459, 460, 85, 179, 461, 462, 463, 464, 465, 466, 467, 468, 273, 274, 275, 276, 69, 68, 469, 470, 471, 472, 180, 277, 278, 279, 859, 860, 861, 862, 863, 864, 865, 866, 867, 868, 869, 870, 871, 872, 873, 874, 875, 876, 877, 878, 879, 880, 881, 882, 883, 884, 885, 886, 887, 888, 889, 890, 891, 892, 893, 894, 895, 896] rfl (by decide +kernel)
set_option maxRecDepth 100000 in
theorem gL_law_X9_hearth : GoodIn wsL_law (wsV RL 61 RX9 yX9_hearth wsX9_hearth) := goodIn_app (goodIn_of _ (by decide +kernel)) ggL_law_X9_hearth
set_option maxRecDepth 100000 in
theorem ggL_law_X8_told : GoodIn wsL_law wsX8_told := goodIn_r _ [487, 21, 25, 105, 106, 2, 107, 284, 285, 286, 287, 288, 20, 289, 290, 143, 387, 388, 389, 390, 391, 24, 392, 393, 394, 395, 396, 58, 52, 53, 54, 56, 228, 229, 230, 35, 397, 245, 246, 247, 248, 154, 249, 250, 251, 252, 156, 253, 165, 254, 255, 151, 256, 257, 258, 259, 398, 261, 399, 400, 401, 402, 403, 404, 405, 406, 407, 408, 409, 55, 410, 411, 412, 413, 329, 38, 330, 331, 48, 298, 299, 300, 301, 170, 414, 415, 416, 417, 418, 419, 420, 421, 422, 423, 424, 425, 57, 426, 427, 428, 429, 430, 431, 432, 433, 263, 264, 434, 435, 436, 437, 488, 489, 490, 854, 855, 856, 857, 858, 898, 899, 900, 901, 902, 903, 904, 905, 906, 907, 908, 909, 910, 911, 912, 913, 914, 915, 925, 926, 927, 922, 923, 924, 928, 929, 930, 919, 920, 921] rfl (by decide +kernel)
set_option maxRecDepth 100000 in
theorem gL_law_X8_told : GoodIn wsL_law (wsV RL 62 RX8 yX8_told wsX8_told) := goodIn_app (goodIn_of _ (by decide +kernel)) ggL_law_X8_told
set_option maxRecDepth 100000 in
theorem ggL_law_X9_told : GoodIn wsL_law wsX9_told := goodIn_r _ [494, 178, 85, 348, 349, 5, 350, 175, 189, 190, 191, 310, 311, 312, 313, 445, 446, 447, 448, 449, 450, 451, 452, 82, 70, 83, 84, 453, 454, 455, 456, 182, 79, 81, 80, 181, 75, 76, 457, 458, 459, 460, 179, 461, 462, 463, 464, 465, 466, 467, 468, 273, 274, 275, 276, 69, 68, 469, 470, 471, 472, 180, 277, 278, 279, 859, 860, 861, 862, 863, 864, 865, 866, 867, 868, 869, 870, 871, 872, 873, 874, 875, 876, 877, 878, 879, 880, 881, 882, 883, 884, 885, 886, 887, 888, 889, 890, 891, 892, 893, 894, 895, 896] rfl (by decide +kernel)
set_option maxRecDepth 100000 in
theorem gL_law_X9_told : GoodIn wsL_law (wsV RL 65 RX9 yX9_told wsX9_told) := goodIn_app (goodIn_of _ (by decide +kernel)) ggL_law_X9_told
set_option maxRecDepth 100000 in
theorem ggL_law_X8_forbidden : GoodIn wsL_law wsX8_forbidden := goodIn_r _ [498, 21, 25, 105, 106, 2, 107, 288, 20, 289, 290, 143, 387, 388, 389, 390, 391, 24, 392, 393, 394, 395, 396, 58, 52, 53, 54, 56, 228, 229, 230, 35, 397, 245, 246, 247, 248, 154, 249, 250, 251, 252, 156, 253, 165, 254, 255, 151, 256, 257, 258, 259, 398, 261, 399, 400, 401, 402, 403, 404, 405, 406, 407, 408, 409, 55, 410, 411, 412, 413, 329, 38, 330, 331, 48, 298, 299, 300, 301, 170, 414, 415, 416, 417, 418, 419, 420, 421, 422, 423, 424, 425, 57, 426, 427, 428, 429, 430, 431, 432, 433, 263, 264, 434, 435, 436, 437, 499, 500, 501, 502, 503, 504, 505, 506, 507, 508, 509, 854, 855, 856, 857, 858, 898, 899, 900, 901, 902, 903, 904, 905, 906, 907, 908, 909, 910, 911, 912, 913, 914, 915, 925, 926, 927, 922, 923, 924, 928, 929, 930, 919, 920, 921] rfl (by decide +kernel)
set_option maxRecDepth 100000 in
theorem gL_law_X8_forbidden : GoodIn wsL_law (wsV RL 66 RX8 yX8_forbidden wsX8_forbidden) := goodIn_app (goodIn_of _ (by decide +kernel)) ggL_law_X8_forbidden
set_option maxRecDepth 100000 in
theorem ggL_law_X9_forbidden : GoodIn wsL_law wsX9_forbidden := goodIn_r _ [513, 178, 310, 311, 5, 312, 313, 189, 190, 191, 445, 446, 447, 448, 449, 450, 451, 452, 82, 70, 83, 84, 453, 454, 455, 456, 182, 79, 81, 80, 181, 75, 76, 457, 458, 459, 460, 85, 179, 461, 462, 463, 464, 465, 466, 467, 468, 273, 274, 275, 276, 69, 68, 469, 470, 471, 472, 180, 277, 278, 279, 514, 515, 516, 517, 78, 74, 518, 519, 520, 521, 859, 860, 861, 862, 863, 864, 865, 866, 867, 868, 869, 870, 871, 872, 873, 874, 875, 876, 877, 878, 879, 880, 881, 882, 883, 884, 885, 886, 887, 888, 889, 890, 891, 892, 893, 894, 895, 896] rfl (by decide +kernel)
set_option maxRecDepth 100000 in
theorem gL_law_X9_forbidden : GoodIn wsL_law (wsV RL 69 RX9 yX9_forbidden wsX9_forbidden) := goodIn_app (goodIn_of _ (by decide +kernel)) ggL_law_X9_forbidden
set_option maxRecDepth 100000 in
theorem ggL_law_X8_dies : GoodIn wsL_law wsX8_dies := goodIn_r _ [525, 21, 299, 38, 300, 301, 170, 526, 527, 528, 2, 529, 25, 329, 330, 331, 48, 298, 106, 107, 391, 24, 392, 393, 394, 395, 396, 58, 52, 53, 54, 56, 228, 20, 229, 230, 143, 35, 397, 245, 246, 247, 248, 154, 249, 250, 251, 252, 156, 253, 165, 254, 255, 151, 256, 257, 258, 259, 398, 261, 399, 400, 401, 402, 403, 404, 405, 406, 407, 408, 409, 55, 410, 411, 412, 413, 414, 415, 416, 417, 418, 419, 420, 421, 422, 423, 424, 425, 57, 426, 427, 428, 429, 430, 431, 432, 433, 263, 264, 434, 435, 436, 437, 503, 504, 505, 262, 854, 855, 856, 857, 858, 898, 899, 900, 901, 902, 903, 904, 905, 919, 920, 921, 906, 907, 908, 909, 910, 911, 912, 913, 914, 915, 925, 926, 927, 922, 923, 924, 928, 929, 930] rfl (by decide +kernel)
set_option maxRecDepth 100000 in
theorem gL_law_X8_dies : GoodIn wsL_law (wsV RL 70 RX8 yX8_dies wsX8_dies) := goodIn_app (goodIn_of _ (by decide +kernel)) ggL_law_X8_dies
set_option maxRecDepth 100000 in
theorem ggL_law_X9_dies : GoodIn wsL_law wsX9_dies := goodIn_r _ [533, 336, 337, 338, 5, 339, 181, 189, 190, 191, 534, 535, 536, 537, 76, 449, 450, 451, 452, 178, 82, 70, 83, 84, 453, 454, 455, 456, 182, 79, 81, 80, 75, 457, 458, 459, 460, 85, 179, 461, 462, 463, 464, 465, 466, 467, 468, 273, 274, 275, 276, 69, 68, 469, 470, 471, 472, 180, 277, 278, 279, 518, 519, 520, 521, 859, 860, 861, 862, 863, 864, 865, 866, 867, 868, 869, 870, 871, 872, 873, 874, 875, 876, 877, 878, 879, 880, 881, 882, 883, 884, 885, 886, 887, 888, 889, 890, 891, 892, 893, 894, 895, 896] rfl (by decide +kernel)
set_option maxRecDepth 100000 in
theorem gL_law_X9_dies : GoodIn wsL_law (wsV RL 73 RX9 yX9_dies wsX9_dies) := goodIn_app (goodIn_of _ (by decide +kernel)) ggL_law_X9_dies
set_option maxRecDepth 100000 in
theorem ggL_law_X8_free : GoodIn wsL_law wsX8_free := goodIn_r _ [541, 25, 21, 105, 106, 2, 107, 284, 285, 286, 287, 288, 20, 289, 290, 143, 391, 24, 392, 393, 394, 395, 396, 58, 52, 53, 54, 56, 228, 229, 230, 35, 397, 245, 246, 247, 248, 154, 249, 250, 251, 252, 156, 253, 165, 254, 255, 151, 256, 257, 258, 259, 398, 261, 399, 400, 401, 402, 403, 404, 405, 406, 407, 408, 409, 55, 410, 411, 412, 413, 329, 38, 330, 331, 48, 298, 299, 300, 301, 170, 414, 415, 416, 417, 418, 419, 420, 421, 422, 423, 424, 425, 57, 426, 427, 428, 429, 430, 431, 432, 433, 263, 264, 434, 435, 436, 437, 542, 543, 544, 545, 499, 500, 501, 502, 503, 504, 505, 506, 507, 508, 509, 854, 855, 856, 857, 858, 898, 899, 900, 901, 902, 903, 904, 905, 906, 907, 908, 909, 910, 911, 912, 913, 914, 915, 925, 926, 927, 922, 923, 924, 928, 929, 930, 919, 920, 921] rfl (by decide +kernel)
set_option maxRecDepth 100000 in
theorem gL_law_X8_free : GoodIn wsL_law (wsV RL 74 RX8 yX8_free wsX8_free) := goodIn_app (goodIn_of _ (by decide +kernel)) ggL_law_X8_free
set_option maxRecDepth 100000 in
theorem ggL_law_X9_free : GoodIn wsL_law wsX9_free := goodIn_r _ [549, 550, 551, 552, 5, 553, 178, 306, 307, 308, 309, 189, 190, 191, 310, 311, 312, 313, 449, 450, 451, 452, 82, 70, 83, 84, 453, 454, 455, 456, 182, 79, 81, 80, 181, 75, 76, 457, 458, 459, 460, 85, 179, 461, 462, 463, 464, 465, 466, 467, 468, 273, 274, 275, 276, 69, 68, 469, 470, 471, 472, 180, 277, 278, 279, 514, 515, 516, 517, 78, 74, 518, 519, 520, 521, 859, 860, 861, 862, 863, 864, 865, 866, 867, 868, 869, 870, 871, 872, 873, 874, 875, 876, 877, 878, 879, 880, 881, 882, 883, 884, 885, 886, 887, 888, 889, 890, 891, 892, 893, 894, 895, 896] rfl (by decide +kernel)
set_option maxRecDepth 100000 in
theorem gL_law_X9_free : GoodIn wsL_law (wsV RL 77 RX9 yX9_free wsX9_free) := goodIn_app (goodIn_of _ (by decide +kernel)) ggL_law_X9_free
set_option maxRecDepth 100000 in
theorem ggL_law_X8_fewest : GoodIn wsL_law wsX8_fewest := goodIn_r _ [557, 21, 105, 106, 2, 107, 284, 285, 286, 287, 288, 20, 289, 290, 143, 558, 559, 560, 561, 562, 563, 564, 565, 566, 567, 568, 25, 387, 388, 389, 390, 391, 24, 392, 393, 394, 395, 396, 58, 52, 53, 54, 56, 228, 229, 230, 35, 397, 245, 246, 247, 248, 154, 249, 250, 251, 252, 156, 253, 165, 254, 255, 151, 256, 257, 258, 259, 398, 261, 399, 400, 401, 402, 403, 404, 405, 406, 407, 408, 409, 55, 410, 411, 412, 413, 329, 38, 330, 331, 48, 298, 299, 300, 301, 170, 414, 415, 416, 417, 418, 419, 420, 421, 422, 423, 424, 425, 57, 426, 427, 428, 429, 430, 431, 432, 433, 263, 264, 434, 435, 436, 437, 542, 543, 544, 545, 499, 500, 501, 502, 503, 504, 505, 506, 507, 508, 509, 854, 855, 856, 857, 858, 898, 899, 900, 901, 902, 903, 904, 905, 906, 907, 908, 909, 910, 911, 912, 913, 914, 915, 925, 926, 927, 922, 923, 924, 928, 929, 930, 919, 920, 921] rfl (by decide +kernel)
set_option maxRecDepth 100000 in
theorem gL_law_X8_fewest : GoodIn wsL_law (wsV RL 78 RX8 yX8_fewest wsX8_fewest) := goodIn_app (goodIn_of _ (by decide +kernel)) ggL_law_X8_fewest
set_option maxRecDepth 100000 in
theorem ggL_law_X9_fewest : GoodIn wsL_law wsX9_fewest := goodIn_r _ [572, 179, 550, 551, 552, 5, 553, 178, 306, 307, 308, 309, 189, 190, 191, 310, 311, 312, 313, 573, 574, 575, 576, 577, 578, 579, 580, 581, 582, 583, 445, 446, 447, 448, 449, 450, 451, 452, 82, 70, 83, 84, 453, 454, 455, 456, 182, 79, 81, 80, 181, 75, 76, 457, 458, 459, 460, 85, 461, 462, 463, 464, 465, 466, 467, 468, 273, 274, 275, 276, 69, 68, 469, 470, 471, 472, 180, 277, 278, 279, 514, 515, 516, 517, 78, 74, 518, 519, 520, 521, 859, 860, 861, 862, 863, 864, 865, 866, 867, 868, 869, 870, 871, 872, 873, 874, 875, 876, 877, 878, 879, 880, 881, 882, 883, 884, 885, 886, 887, 888, 889, 890, 891, 892, 893, 894, 895, 896] rfl (by decide +kernel)
set_option maxRecDepth 100000 in
theorem gL_law_X9_fewest : GoodIn wsL_law (wsV RL 81 RX9 yX9_fewest wsX9_fewest) := goodIn_app (goodIn_of _ (by decide +kernel)) ggL_law_X9_fewest
set_option maxRecDepth 100000 in
theorem ggL_law_X8_longest : GoodIn wsL_law wsX8_longest := goodIn_r _ [587, 21, 105, 106, 2, 107, 288, 20, 289, 290, 143, 291, 38, 292, 293, 170, 46, 294, 295, 296, 297, 48, 298, 299, 300, 301, 526, 527, 528, 529, 25, 329, 330, 331, 391, 24, 392, 393, 394, 395, 396, 58, 52, 53, 54, 56, 228, 229, 230, 35, 397, 245, 246, 247, 248, 154, 249, 250, 251, 252, 156, 253, 165, 254, 255, 151, 256, 257, 258, 259, 398, 261, 399, 400, 401, 402, 403, 404, 405, 406, 407, 408, 409, 55, 410, 411, 412, 413, 414, 415, 416, 417, 418, 419, 420, 421, 422, 423, 424, 425, 57, 426, 427, 428, 429, 430, 431, 432, 433, 263, 264, 434, 435, 436, 437, 503, 504, 505, 262, 318, 319, 320, 854, 855, 856, 857, 858, 898, 899, 900, 901, 902, 903, 904, 905, 919, 920, 921, 906, 907, 908, 909, 910, 911, 912, 913, 914, 915, 925, 926, 927, 922, 923, 924, 928, 929, 930] rfl (by decide +kernel)
set_option maxRecDepth 100000 in
theorem gL_law_X8_longest : GoodIn wsL_law (wsV RL 82 RX8 yX8_longest wsX8_longest) := goodIn_app (goodIn_of _ (by decide +kernel)) ggL_law_X8_longest
set_option maxRecDepth 100000 in
theorem ggL_law_X9_longest : GoodIn wsL_law wsX9_longest := goodIn_r _ [591, 178, 181, 74, 76, 78, 75, 310, 311, 5, 312, 313, 189, 190, 191, 534, 535, 536, 537, 449, 450, 451, 452, 82, 70, 83, 84, 453, 454, 455, 456, 182, 79, 81, 80, 457, 458, 459, 460, 85, 179, 461, 462, 463, 464, 465, 466, 467, 468, 273, 274, 275, 276, 69, 68, 469, 470, 471, 472, 180, 277, 278, 279, 518, 519, 520, 521, 859, 860, 861, 862, 863, 864, 865, 866, 867, 868, 869, 870, 871, 872, 873, 874, 875, 876, 877, 878, 879, 880, 881, 882, 883, 884, 885, 886, 887, 888, 889, 890, 891, 892, 893, 894, 895, 896] rfl (by decide +kernel)
set_option maxRecDepth 100000 in
theorem gL_law_X9_longest : GoodIn wsL_law (wsV RL 85 RX9 yX9_longest wsX9_longest) := goodIn_app (goodIn_of _ (by decide +kernel)) ggL_law_X9_longest
set_option maxRecDepth 100000 in
theorem ggL_law_X8_need : GoodIn wsL_law wsX8_need := goodIn_r _ [595, 21, 105, 106, 2, 107, 288, 20, 289, 290, 143, 291, 38, 292, 293, 170, 46, 294, 295, 296, 297, 48, 298, 299, 300, 301, 854, 855, 856, 857, 858, 898, 899, 900, 901, 902, 903, 904, 905, 919, 920, 921] rfl (by decide +kernel)
set_option maxRecDepth 100000 in
theorem gL_law_X8_need : GoodIn wsL_law (wsV RL 86 RX8 yX8_need wsX8_need) := goodIn_app (goodIn_of _ (by decide +kernel)) ggL_law_X8_need
set_option maxRecDepth 100000 in
theorem ggL_law_X9_need : GoodIn wsL_law wsX9_need := goodIn_r _ [599, 178, 183, 86, 87, 306, 307, 5, 308, 309, 189, 190, 191, 859, 860, 861, 862, 863, 864, 865, 866, 867, 868, 869, 870, 871, 872, 873, 874, 875, 876, 877, 878, 879, 880, 881, 882, 883, 884, 885, 886, 887, 888, 889, 890, 891, 892, 893, 894, 895, 896] rfl (by decide +kernel)
set_option maxRecDepth 100000 in
theorem gL_law_X9_need : GoodIn wsL_law (wsV RL 89 RX9 yX9_need wsX9_need) := goodIn_app (goodIn_of _ (by decide +kernel)) ggL_law_X9_need
set_option maxRecDepth 100000 in
theorem ggL_law_X8_clash : GoodIn wsL_law wsX8_clash := goodIn_r _ [603, 21, 25, 105, 106, 2, 107, 288, 20, 289, 290, 143, 391, 24, 392, 393, 394, 395, 396, 58, 52, 53, 54, 56, 228, 229, 230, 35, 397, 245, 246, 247, 248, 154, 249, 250, 251, 252, 156, 253, 165, 254, 255, 151, 256, 257, 258, 259, 398, 261, 399, 400, 401, 402, 403, 404, 405, 406, 407, 408, 409, 55, 410, 411, 412, 413, 329, 38, 330, 331, 48, 298, 299, 300, 301, 170, 414, 415, 416, 417, 418, 419, 420, 421, 422, 423, 424, 425, 57, 426, 427, 428, 429, 430, 431, 432, 433, 263, 264, 434, 435, 436, 437, 499, 500, 501, 502, 503, 504, 505, 506, 507, 508, 509, 604, 605, 606, 41, 854, 855, 856, 857, 858, 898, 899, 900, 901, 902, 903, 904, 905, 906, 907, 908, 909, 910, 911, 912, 913, 914, 915, 925, 926, 927, 922, 923, 924, 928, 929, 930, 919, 920, 921] rfl (by decide +kernel)
set_option maxRecDepth 100000 in
theorem gL_law_X8_clash : GoodIn wsL_law (wsV RL 90 RX8 yX8_clash wsX8_clash) := goodIn_app (goodIn_of _ (by decide +kernel)) ggL_law_X8_clash
set_option maxRecDepth 100000 in
theorem ggL_law_X9_clash : GoodIn wsL_law wsX9_clash := goodIn_r _ [610, 178, 183, 86, 87, 189, 190, 5, 191, 449, 450, 451, 452, 82, 70, 83, 84, 453, 454, 455, 456, 182, 79, 81, 80, 181, 75, 76, 457, 458, 459, 460, 85, 179, 461, 462, 463, 464, 465, 466, 467, 468, 273, 274, 275, 276, 69, 68, 469, 470, 471, 472, 180, 277, 278, 279, 514, 515, 516, 517, 78, 74, 518, 519, 520, 521, 859, 860, 861, 862, 863, 864, 865, 866, 867, 868, 869, 870, 871, 872, 873, 874, 875, 876, 877, 878, 879, 880, 881, 882, 883, 884, 885, 886, 887, 888, 889, 890, 891, 892, 893, 894, 895, 896] rfl (by decide +kernel)
set_option maxRecDepth 100000 in
theorem gL_law_X9_clash : GoodIn wsL_law (wsV RL 93 RX9 yX9_clash wsX9_clash) := goodIn_app (goodIn_of _ (by decide +kernel)) ggL_law_X9_clash
