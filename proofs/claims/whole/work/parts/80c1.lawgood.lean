set_option maxRecDepth 100000 in
theorem ggL_law_X8_plan : GoodIn wsL_law wsX8_plan := goodIn_r _ [614, 100, 21, 101, 102, 103, 2, 104, 13, 105, 106, 107, 288, 20, 289, 290, 143, 108, 27, 109, 110, 63, 111, 112, 113, 114, 115, 116, 117, 118, 119, 120, 121, 122, 123, 615, 616, 617, 618, 126, 127, 128, 62, 129, 130, 131, 132, 619, 620, 621, 622, 25, 391, 24, 392, 393, 394, 395, 396, 58, 52, 53, 54, 56, 228, 229, 230, 35, 397, 245, 246, 247, 248, 154, 249, 250, 251, 252, 156, 253, 165, 254, 255, 151, 256, 257, 258, 259, 398, 261, 399, 400, 401, 402, 403, 404, 405, 406, 407, 408, 409, 55, 410, 411, 412, 413, 329, 38, 330, 331, 48, 298, 299, 300, 301, 170, 414, 415, 416, 417, 418, 419, 420, 421, 422, 423, 424, 425, 57, 426, 427, 428, 429, 430, 431, 432, 433, 263, 264, 434, 435, 436, 437, 542, 543, 544, 545, 499, 500, 501, 502, 503, 504, 505, 506, 507, 508, 509, 854, 855, 856, 857, 858, 898, 899, 900, 901, 902, 903, 904, 905, 916, 917, 918, 906, 907, 908, 909, 910, 911, 912, 913, 914, 915, 925, 926, 927, 922, 923, 924, 928, 929, 930, 919, 920, 921] rfl (by decide +kernel)
set_option maxRecDepth 100000 in
theorem gL_law_X8_plan : GoodIn wsL_law (wsV RL 94 RX8 yX8_plan wsX8_plan) := goodIn_app (goodIn_of _ (by decide +kernel)) ggL_law_X8_plan
set_option maxRecDepth 100000 in
theorem ggL_law_X9_plan : GoodIn wsL_law wsX9_plan := goodIn_r _ [626, 175, 178, 94, 185, 186, 5, 187, 188, 189, 190, 191, 192, 193, 194, 195, 196, 310, 311, 312, 313, 197, 198, 199, 200, 92, 93, 201, 202, 203, 204, 205, 206, 207, 306, 307, 308, 309, 580, 581, 582, 583, 445, 446, 447, 448, 449, 450, 451, 452, 82, 70, 83, 84, 453, 454, 455, 456, 182, 79, 81, 80, 181, 75, 76, 457, 458, 459, 460, 85, 179, 461, 462, 463, 464, 465, 466, 467, 468, 273, 274, 275, 276, 69, 68, 469, 470, 471, 472, 180, 277, 278, 279, 514, 515, 516, 517, 78, 74, 518, 519, 520, 521, 859, 860, 861, 862, 863, 864, 865, 866, 867, 868, 869, 870, 871, 872, 873, 874, 875, 876, 877, 878, 879, 880, 881, 882, 883, 884, 885, 886, 887, 888, 889, 890, 891, 892, 893, 894, 895, 896] rfl (by decide +kernel)
set_option maxRecDepth 100000 in
theorem gL_law_X9_plan : GoodIn wsL_law (wsV RL 98 RX9 yX9_plan wsX9_plan) := goodIn_app (goodIn_of _ (by decide +kernel)) ggL_law_X9_plan
set_option maxRecDepth 100000 in
theorem ggL_law_X8_reading : GoodIn wsL_law wsX8_reading := goodIn_r _ [630, 21, 228, 20, 229, 230, 143, 35, 106, 2, 107, 299, 38, 300, 301, 170, 105, 284, 285, 286, 287, 288, 289, 290, 291, 292, 293, 46, 294, 295, 296, 297, 48, 298, 854, 855, 856, 857, 858, 898, 899, 900, 901, 902, 903, 904, 905, 919, 920, 921] rfl (by decide +kernel)
set_option maxRecDepth 100000 in
theorem gL_law_X8_reading : GoodIn wsL_law (wsV RL 99 RX8 yX8_reading wsX8_reading) := goodIn_app (goodIn_of _ (by decide +kernel)) ggL_law_X8_reading
set_option maxRecDepth 100000 in
theorem ggL_law_X9_reading : GoodIn wsL_law wsX9_reading := goodIn_r _ [634, 184, 88, 89, 90, 91, 269, 270, 271, 5, 272, 178, 189, 190, 191, 336, 337, 338, 339, 181, 310, 311, 312, 313, 859, 860, 861, 862, 863, 864, 865, 866, 867, 868, 869, 870, 871, 872, 873, 874, 875, 876, 877, 878, 879, 880, 881, 882, 883, 884, 885, 886, 887, 888, 889, 890, 891, 892, 893, 894, 895, 896] rfl (by decide +kernel)
set_option maxRecDepth 100000 in
theorem gL_law_X9_reading : GoodIn wsL_law (wsV RL 103 RX9 yX9_reading wsX9_reading) := goodIn_app (goodIn_of _ (by decide +kernel)) ggL_law_X9_reading
set_option maxRecDepth 100000 in
theorem ggL_law_X8_back : GoodIn wsL_law wsX8_back := goodIn_r _ [638, 21, 318, 38, 319, 320, 170, 854, 855, 856, 857, 858, 898, 899, 900, 901, 902, 903, 904, 905, 919, 920, 921] rfl (by decide +kernel)
set_option maxRecDepth 100000 in
theorem gL_law_X8_back : GoodIn wsL_law (wsV RL 104 RX8 yX8_back wsX8_back) := goodIn_app (goodIn_of _ (by decide +kernel)) ggL_law_X8_back
set_option maxRecDepth 100000 in
theorem ggL_law_X9_back : GoodIn wsL_law wsX9_back := goodIn_r _ [642, 184, 189, 190, 5, 191, 859, 860, 861, 862, 863, 864, 865, 866, 867, 868, 869, 870, 871, 872, 873, 874, 875, 876, 877, 878, 879, 880, 881, 882, 883, 884, 885, 886, 887, 888, 889, 890, 891, 892, 893, 894, 895, 896] rfl (by decide +kernel)
set_option maxRecDepth 100000 in
theorem gL_law_X9_back : GoodIn wsL_law (wsV RL 107 RX9 yX9_back wsX9_back) := goodIn_app (goodIn_of _ (by decide +kernel)) ggL_law_X9_back
set_option maxRecDepth 100000 in
theorem ggL_law_X8_comes : GoodIn wsL_law wsX8_comes := goodIn_r _ [646, 21, 299, 38, 300, 301, 170, 329, 330, 331, 48, 298, 106, 2, 107, 295, 296, 297, 647, 648, 649, 650, 25, 391, 24, 392, 393, 394, 395, 396, 58, 52, 53, 54, 56, 228, 20, 229, 230, 143, 35, 397, 245, 246, 247, 248, 154, 249, 250, 251, 252, 156, 253, 165, 254, 255, 151, 256, 257, 258, 259, 398, 261, 399, 400, 401, 402, 403, 404, 405, 406, 407, 408, 409, 55, 410, 411, 412, 413, 414, 415, 416, 417, 418, 419, 420, 421, 422, 423, 424, 425, 57, 426, 427, 428, 429, 430, 431, 432, 433, 263, 264, 434, 435, 436, 437, 651, 652, 653, 654, 438, 439, 440, 262, 854, 855, 856, 857, 858, 898, 899, 900, 901, 902, 903, 904, 905, 919, 920, 921, 906, 907, 908, 909, 910, 911, 912, 913, 914, 915, 925, 926, 927, 922, 923, 924, 928, 929, 930] rfl (by decide +kernel)
set_option maxRecDepth 100000 in
theorem gL_law_X8_comes : GoodIn wsL_law (wsV RL 108 RX8 yX8_comes wsX8_comes) := goodIn_app (goodIn_of _ (by decide +kernel)) ggL_law_X8_comes
set_option maxRecDepth 100000 in
theorem ggL_law_X9_comes : GoodIn wsL_law wsX9_comes := goodIn_r _ [658, 75, 178, 336, 337, 338, 5, 339, 181, 189, 190, 191, 659, 660, 661, 662, 184, 90, 88, 89, 91, 449, 450, 451, 452, 82, 70, 83, 84, 453, 454, 455, 456, 182, 79, 81, 80, 76, 457, 458, 459, 460, 85, 179, 461, 462, 463, 464, 465, 466, 467, 468, 273, 274, 275, 276, 69, 68, 469, 470, 471, 472, 180, 277, 278, 279, 859, 860, 861, 862, 863, 864, 865, 866, 867, 868, 869, 870, 871, 872, 873, 874, 875, 876, 877, 878, 879, 880, 881, 882, 883, 884, 885, 886, 887, 888, 889, 890, 891, 892, 893, 894, 895, 896] rfl (by decide +kernel)
set_option maxRecDepth 100000 in
theorem gL_law_X9_comes : GoodIn wsL_law (wsV RL 111 RX9 yX9_comes wsX9_comes) := goodIn_app (goodIn_of _ (by decide +kernel)) ggL_law_X9_comes
set_option maxRecDepth 100000 in
theorem ggL_law_X8_paid : GoodIn wsL_law wsX8_paid := goodIn_r _ [666, 21, 288, 20, 289, 290, 143, 647, 648, 649, 2, 650, 25, 391, 24, 392, 393, 394, 395, 396, 58, 52, 53, 54, 56, 228, 229, 230, 35, 106, 107, 397, 245, 246, 247, 248, 154, 249, 250, 251, 252, 156, 253, 165, 254, 255, 151, 256, 257, 258, 259, 398, 261, 399, 400, 401, 402, 403, 404, 405, 406, 407, 408, 409, 55, 410, 411, 412, 413, 329, 38, 330, 331, 48, 298, 299, 300, 301, 170, 414, 415, 416, 417, 418, 419, 420, 421, 422, 423, 424, 425, 57, 426, 427, 428, 429, 430, 431, 432, 433, 263, 264, 434, 435, 436, 437, 651, 652, 653, 654, 438, 439, 440, 262, 854, 855, 856, 857, 858, 898, 899, 900, 901, 902, 903, 904, 905, 906, 907, 908, 909, 910, 911, 912, 913, 914, 915, 925, 926, 927, 922, 923, 924, 928, 929, 930, 919, 920, 921] rfl (by decide +kernel)
set_option maxRecDepth 100000 in
theorem gL_law_X8_paid : GoodIn wsL_law (wsV RL 112 RX8 yX8_paid wsX8_paid) := goodIn_app (goodIn_of _ (by decide +kernel)) ggL_law_X8_paid
set_option maxRecDepth 100000 in
theorem ggL_law_X9_paid : GoodIn wsL_law wsX9_paid := goodIn_r _ [670, 178, 179, 659, 660, 661, 5, 662, 184, 90, 88, 89, 91, 449, 450, 451, 452, 82, 70, 83, 84, 453, 454, 455, 456, 182, 79, 81, 80, 181, 75, 76, 457, 458, 459, 460, 85, 461, 462, 463, 464, 465, 466, 467, 468, 273, 274, 275, 276, 69, 68, 469, 470, 471, 472, 180, 277, 278, 279, 859, 860, 861, 862, 863, 864, 865, 866, 867, 868, 869, 870, 871, 872, 873, 874, 875, 876, 877, 878, 879, 880, 881, 882, 883, 884, 885, 886, 887, 888, 889, 890, 891, 892, 893, 894, 895, 896] rfl (by decide +kernel)
set_option maxRecDepth 100000 in
theorem gL_law_X9_paid : GoodIn wsL_law (wsV RL 116 RX9 yX9_paid wsX9_paid) := goodIn_app (goodIn_of _ (by decide +kernel)) ggL_law_X9_paid
set_option maxRecDepth 100000 in
theorem ggL_law_X8_laws : GoodIn wsL_law wsX8_laws := goodIn_r _ [674, 21, 288, 20, 289, 290, 143, 647, 648, 649, 2, 650, 25, 391, 24, 392, 393, 394, 395, 396, 58, 52, 53, 54, 56, 228, 229, 230, 35, 106, 107, 397, 245, 246, 247, 248, 154, 249, 250, 251, 252, 156, 253, 165, 254, 255, 151, 256, 257, 258, 259, 398, 261, 399, 400, 401, 402, 403, 404, 405, 406, 407, 408, 409, 55, 410, 411, 412, 413, 329, 38, 330, 331, 48, 298, 299, 300, 301, 170, 414, 415, 416, 417, 418, 419, 420, 421, 422, 423, 424, 425, 57, 426, 427, 428, 429, 430, 431, 432, 433, 263, 264, 434, 435, 436, 437, 651, 652, 653, 654, 438, 439, 440, 262, 854, 855, 856, 857, 858, 898, 899, 900, 901, 902, 903, 904, 905, 906, 907, 908, 909, 910, 911, 912, 913, 914, 915, 925, 926, 927, 922, 923, 924, 928, 929, 930, 919, 920, 921] rfl (by decide +kernel)
set_option maxRecDepth 100000 in
theorem gL_law_X8_laws : GoodIn wsL_law (wsV RL 117 RX8 yX8_laws wsX8_laws) := goodIn_app (goodIn_of _ (by decide +kernel)) ggL_law_X8_laws
set_option maxRecDepth 100000 in
theorem ggL_law_X9_laws : GoodIn wsL_law wsX9_laws := goodIn_r _ [678, 178, 180, 659, 660, 661, 5, 662, 184, 90, 88, 89, 91, 449, 450, 451, 452, 82, 70, 83, 84, 453, 454, 455, 456, 182, 79, 81, 80, 181, 75, 76, 457, 458, 459, 460, 85, 179, 461, 462, 463, 464, 465, 466, 467, 468, 273, 274, 275, 276, 69, 68, 469, 470, 471, 472, 277, 278, 279, 859, 860, 861, 862, 863, 864, 865, 866, 867, 868, 869, 870, 871, 872, 873, 874, 875, 876, 877, 878, 879, 880, 881, 882, 883, 884, 885, 886, 887, 888, 889, 890, 891, 892, 893, 894, 895, 896] rfl (by decide +kernel)
set_option maxRecDepth 100000 in
theorem gL_law_X9_laws : GoodIn wsL_law (wsV RL 120 RX9 yX9_laws wsX9_laws) := goodIn_app (goodIn_of _ (by decide +kernel)) ggL_law_X9_laws
set_option maxRecDepth 100000 in
theorem ggL_law_X8_odds : GoodIn wsL_law wsX8_odds := goodIn_r _ [682, 683, 21, 105, 106, 2, 107, 284, 285, 286, 287, 288, 20, 289, 290, 143, 565, 566, 567, 568, 25, 387, 388, 389, 390, 391, 24, 392, 393, 394, 395, 396, 58, 52, 53, 54, 56, 228, 229, 230, 35, 397, 245, 246, 247, 248, 154, 249, 250, 251, 252, 156, 253, 165, 254, 255, 151, 256, 257, 258, 259, 398, 261, 399, 400, 401, 402, 403, 404, 405, 406, 407, 408, 409, 55, 410, 411, 412, 413, 329, 38, 330, 331, 48, 298, 299, 300, 301, 170, 414, 415, 416, 417, 418, 419, 420, 421, 422, 423, 424, 425, 57, 426, 427, 428, 429, 430, 431, 432, 433, 263, 264, 434, 435, 436, 437, 542, 543, 544, 545, 499, 500, 501, 502, 503, 504, 505, 506, 507, 508, 509, 854, 855, 856, 857, 858, 898, 899, 900, 901, 902, 903, 904, 905, 906, 907, 908, 909, 910, 911, 912, 913, 914, 915, 925, 926, 927, 922, 923, 924, 928, 929, 930, 919, 920, 921] rfl (by decide +kernel)
set_option maxRecDepth 100000 in
theorem gL_law_X8_odds : GoodIn wsL_law (wsV RL 121 RX8 yX8_odds wsX8_odds) := goodIn_app (goodIn_of _ (by decide +kernel)) ggL_law_X8_odds
set_option maxRecDepth 100000 in
theorem ggL_law_X9_odds : GoodIn wsL_law wsX9_odds := goodIn_r _ [687, 178, 179, 306, 307, 5, 308, 309, 189, 190, 191, 310, 311, 312, 313, 688, 689, 690, 691, 573, 574, 575, 576, 580, 581, 582, 583, 445, 446, 447, 448, 449, 450, 451, 452, 82, 70, 83, 84, 453, 454, 455, 456, 182, 79, 81, 80, 181, 75, 76, 457, 458, 459, 460, 85, 461, 462, 463, 464, 465, 466, 467, 468, 273, 274, 275, 276, 69, 68, 469, 470, 471, 472, 180, 277, 278, 279, 514, 515, 516, 517, 78, 74, 518, 519, 520, 521, 692, 693, 694, 859, 860, 861, 862, 863, 864, 865, 866, 867, 868, 869, 870, 871, 872, 873, 874, 875, 876, 877, 878, 879, 880, 881, 882, 883, 884, 885, 886, 887, 888, 889, 890, 891, 892, 893, 894, 895, 896] rfl (by decide +kernel)
set_option maxRecDepth 100000 in
theorem gL_law_X9_odds : GoodIn wsL_law (wsV RL 125 RX9 yX9_odds wsX9_odds) := goodIn_app (goodIn_of _ (by decide +kernel)) ggL_law_X9_odds
set_option maxRecDepth 100000 in
theorem ggL_law_X8_sheet : GoodIn wsL_law wsX8_sheet := goodIn_r _ [698, 100, 101, 102, 103, 2, 104, 13, 105, 106, 107, 120, 121, 122, 123, 699, 27, 700, 701, 63, 702, 140, 141, 142, 119, 62, 703, 400, 401, 402, 854, 855, 856, 857, 858, 916, 917, 918] rfl (by decide +kernel)
set_option maxRecDepth 100000 in
theorem gL_law_X8_sheet : GoodIn wsL_law (wsV RL 126 RX8 yX8_sheet wsX8_sheet) := goodIn_app (goodIn_of _ (by decide +kernel)) ggL_law_X8_sheet
set_option maxRecDepth 100000 in
theorem ggL_law_X9_sheet : GoodIn wsL_law wsX9_sheet := goodIn_r _ [707, 175, 92, 93, 94, 185, 186, 5, 187, 188, 189, 190, 191, 192, 193, 194, 195, 196, 201, 202, 203, 204, 859, 860, 861, 862, 863, 864, 865, 866, 867, 868, 869, 870, 871, 872, 873, 874, 875, 876, 877, 878, 879, 880, 881, 882, 883, 884, 885, 886, 887, 888, 889, 890, 891, 892, 893, 894, 895, 896] rfl (by decide +kernel)
set_option maxRecDepth 100000 in
theorem gL_law_X9_sheet : GoodIn wsL_law (wsV RL 129 RX9 yX9_sheet wsX9_sheet) := goodIn_app (goodIn_of _ (by decide +kernel)) ggL_law_X9_sheet
set_option maxRecDepth 100000 in
theorem ggL_law_X8_lose : GoodIn wsL_law wsX8_lose := goodIn_r _ [711, 101, 102, 103, 2, 104, 13, 105, 106, 107, 112, 27, 113, 114, 63, 712, 713, 714, 119, 854, 855, 856, 857, 858, 916, 917, 918] rfl (by decide +kernel)
set_option maxRecDepth 100000 in
theorem gL_law_X8_lose : GoodIn wsL_law (wsV RL 130 RX8 yX8_lose wsX8_lose) := goodIn_app (goodIn_of _ (by decide +kernel)) ggL_law_X8_lose
set_option maxRecDepth 100000 in
theorem ggL_law_X9_lose : GoodIn wsL_law wsX9_lose := goodIn_r _ [718, 92, 185, 186, 5, 187, 188, 189, 190, 191, 859, 860, 861, 862, 863, 864, 865, 866, 867, 868, 869, 870, 871, 872, 873, 874, 875, 876, 877, 878, 879, 880, 881, 882, 883, 884, 885, 886, 887, 888, 889, 890, 891, 892, 893, 894, 895, 896] rfl (by decide +kernel)
set_option maxRecDepth 100000 in
theorem gL_law_X9_lose : GoodIn wsL_law (wsV RL 133 RX9 yX9_lose wsX9_lose) := goodIn_app (goodIn_of _ (by decide +kernel)) ggL_law_X9_lose
set_option maxRecDepth 100000 in
theorem ggL_law_X8_put : GoodIn wsL_law wsX8_put := goodIn_r _ [722, 100, 101, 102, 103, 2, 104, 13, 105, 106, 107, 112, 27, 113, 114, 63, 120, 121, 122, 123, 130, 131, 132, 119, 723, 724, 725, 62, 129, 726, 727, 728, 729, 854, 855, 856, 857, 858, 916, 917, 918] rfl (by decide +kernel)
set_option maxRecDepth 100000 in
theorem gL_law_X8_put : GoodIn wsL_law (wsV RL 134 RX8 yX8_put wsX8_put) := goodIn_app (goodIn_of _ (by decide +kernel)) ggL_law_X8_put
set_option maxRecDepth 100000 in
theorem ggL_law_X9_put : GoodIn wsL_law wsX9_put := goodIn_r _ [733, 94, 93, 185, 186, 5, 187, 188, 189, 190, 191, 192, 193, 194, 195, 196, 734, 735, 736, 737, 92, 201, 202, 203, 204, 859, 860, 861, 862, 863, 864, 865, 866, 867, 868, 869, 870, 871, 872, 873, 874, 875, 876, 877, 878, 879, 880, 881, 882, 883, 884, 885, 886, 887, 888, 889, 890, 891, 892, 893, 894, 895, 896] rfl (by decide +kernel)
set_option maxRecDepth 100000 in
theorem gL_law_X9_put : GoodIn wsL_law (wsV RL 137 RX9 yX9_put wsX9_put) := goodIn_app (goodIn_of _ (by decide +kernel)) ggL_law_X9_put
set_option maxRecDepth 100000 in
theorem ggL_law_X8_cell : GoodIn wsL_law wsX8_cell := goodIn_r _ [741, 100, 683, 101, 102, 103, 2, 104, 13, 105, 106, 107, 108, 27, 109, 110, 63, 111, 112, 113, 114, 115, 116, 117, 118, 119, 126, 127, 128, 62, 129, 130, 131, 132, 854, 855, 856, 857, 858, 916, 917, 918] rfl (by decide +kernel)
set_option maxRecDepth 100000 in
theorem gL_law_X8_cell : GoodIn wsL_law (wsV RL 138 RX8 yX8_cell wsX8_cell) := goodIn_app (goodIn_of _ (by decide +kernel)) ggL_law_X8_cell
set_option maxRecDepth 100000 in
theorem ggL_law_X9_cell : GoodIn wsL_law wsX9_cell := goodIn_r _ [745, 196, 175, 92, 93, 94, 185, 186, 5, 187, 188, 189, 190, 191, 688, 689, 690, 691, 746, 747, 748, 749, 734, 735, 736, 737, 859, 860, 861, 862, 863, 864, 865, 866, 867, 868, 869, 870, 871, 872, 873, 874, 875, 876, 877, 878, 879, 880, 881, 882, 883, 884, 885, 886, 887, 888, 889, 890, 891, 892, 893, 894, 895, 896] rfl (by decide +kernel)
set_option maxRecDepth 100000 in
theorem gL_law_X9_cell : GoodIn wsL_law (wsV RL 141 RX9 yX9_cell wsX9_cell) := goodIn_app (goodIn_of _ (by decide +kernel)) ggL_law_X9_cell
set_option maxRecDepth 100000 in
theorem ggL_law_X8_copy : GoodIn wsL_law wsX8_copy := goodIn_r _ [753, 100, 754, 325, 326, 327, 101, 102, 103, 2, 104, 13, 105, 106, 107, 112, 27, 113, 114, 63, 120, 121, 122, 123, 116, 117, 118, 119, 854, 855, 856, 857, 858, 916, 917, 918] rfl (by decide +kernel)
set_option maxRecDepth 100000 in
theorem gL_law_X8_copy : GoodIn wsL_law (wsV RL 142 RX8 yX8_copy wsX8_copy) := goodIn_app (goodIn_of _ (by decide +kernel)) ggL_law_X8_copy
set_option maxRecDepth 100000 in
theorem ggL_law_X9_copy : GoodIn wsL_law wsX9_copy := goodIn_r _ [758, 92, 93, 95, 94, 185, 186, 5, 187, 188, 189, 190, 191, 192, 193, 194, 195, 196, 201, 202, 203, 204, 205, 206, 207, 859, 860, 861, 862, 863, 864, 865, 866, 867, 868, 869, 870, 871, 872, 873, 874, 875, 876, 877, 878, 879, 880, 881, 882, 883, 884, 885, 886, 887, 888, 889, 890, 891, 892, 893, 894, 895, 896] rfl (by decide +kernel)
set_option maxRecDepth 100000 in
theorem gL_law_X9_copy : GoodIn wsL_law (wsV RL 145 RX9 yX9_copy wsX9_copy) := goodIn_app (goodIn_of _ (by decide +kernel)) ggL_law_X9_copy
set_option maxRecDepth 100000 in
theorem ggL_law_X8_tell : GoodIn wsL_law wsX8_tell := goodIn_r _ [762, 21, 17, 228, 20, 229, 230, 143, 35, 106, 2, 107, 763, 764, 765, 766, 767, 154, 768, 769, 16, 770, 771, 772, 773, 251, 774, 156, 775, 776, 777, 778, 779, 780, 165, 781, 782, 783, 784, 785, 151, 786, 787, 788, 259, 789, 790, 791, 792, 793, 854, 855, 856, 857, 858, 898, 899, 900, 901, 902, 903, 904, 905, 897, 925, 926, 927, 922, 923, 924, 928, 929, 930] rfl (by decide +kernel)
set_option maxRecDepth 100000 in
theorem gL_law_X8_tell : GoodIn wsL_law (wsV RL 146 RX8 yX8_tell wsX8_tell) := goodIn_app (goodIn_of _ (by decide +kernel)) ggL_law_X8_tell
set_option maxRecDepth 100000 in
theorem ggL_law_X9_tell : GoodIn wsL_law wsX9_tell := goodIn_r _ [797, 68, 69, 269, 270, 271, 5, 272, 178, 189, 190, 191, 798, 799, 800, 801, 802, 859, 860, 861, 862, 863, 864, 865, 866, 867, 868, 869, 870, 871, 872, 873, 874, 875, 876, 877, 878, 879, 880, 881, 882, 883, 884, 885, 886, 887, 888, 889, 890, 891, 892, 893, 894, 895, 896] rfl (by decide +kernel)
set_option maxRecDepth 100000 in
theorem gL_law_X9_tell : GoodIn wsL_law (wsV RL 149 RX9 yX9_tell wsX9_tell) := goodIn_app (goodIn_of _ (by decide +kernel)) ggL_law_X9_tell
set_option maxRecDepth 100000 in
theorem ggL_law_X8_greet : GoodIn wsL_law wsX8_greet := goodIn_r _ [806, 21, 17, 228, 20, 229, 230, 143, 35, 106, 2, 107, 807, 808, 809, 810, 156, 811, 164, 769, 16, 770, 771, 772, 812, 813, 814, 151, 815, 816, 817, 854, 855, 856, 857, 858, 898, 899, 900, 901, 902, 903, 904, 905, 925, 926, 927, 922, 923, 924, 928, 929, 930, 897] rfl (by decide +kernel)
set_option maxRecDepth 100000 in
theorem gL_law_X8_greet : GoodIn wsL_law (wsV RL 150 RX8 yX8_greet wsX8_greet) := goodIn_app (goodIn_of _ (by decide +kernel)) ggL_law_X8_greet
set_option maxRecDepth 100000 in
theorem ggL_law_X9_greet : GoodIn wsL_law wsX9_greet := goodIn_r _ [821, 68, 269, 270, 271, 5, 272, 178, 189, 190, 191, 798, 799, 800, 801, 802, 859, 860, 861, 862, 863, 864, 865, 866, 867, 868, 869, 870, 871, 872, 873, 874, 875, 876, 877, 878, 879, 880, 881, 882, 883, 884, 885, 886, 887, 888, 889, 890, 891, 892, 893, 894, 895, 896] rfl (by decide +kernel)
set_option maxRecDepth 100000 in
theorem gL_law_X9_greet : GoodIn wsL_law (wsV RL 153 RX9 yX9_greet wsX9_greet) := goodIn_app (goodIn_of _ (by decide +kernel)) ggL_law_X9_greet
set_option maxRecDepth 100000 in
theorem ggL_law_X8_as : GoodIn wsL_law wsX8_as := goodIn_r _ [825, 100, 21, 228, 20, 229, 230, 143, 35, 106, 2, 107, 105, 231, 232, 233, 234, 235, 154, 236, 237, 238, 239, 151, 240, 241, 242, 243, 156, 120, 121, 122, 123, 854, 855, 856, 857, 858, 898, 899, 900, 901, 902, 903, 904, 905] rfl (by decide +kernel)
set_option maxRecDepth 100000 in
theorem gL_law_X8_as : GoodIn wsL_law (wsV RL 154 RX8 yX8_as wsX8_as) := goodIn_app (goodIn_of _ (by decide +kernel)) ggL_law_X8_as
set_option maxRecDepth 100000 in
theorem ggL_law_X9_as : GoodIn wsL_law wsX9_as := goodIn_r _ [829, 175, 68, 269, 270, 271, 5, 272, 178, 189, 190, 191, 192, 193, 194, 195, 196, 201, 202, 203, 204, 859, 860, 861, 862, 863, 864, 865, 866, 867, 868, 869, 870, 871, 872, 873, 874, 875, 876, 877, 878, 879, 880, 881, 882, 883, 884, 885, 886, 887, 888, 889, 890, 891, 892, 893, 894, 895, 896] rfl (by decide +kernel)
set_option maxRecDepth 100000 in
theorem gL_law_X9_as : GoodIn wsL_law (wsV RL 157 RX9 yX9_as wsX9_as) := goodIn_app (goodIn_of _ (by decide +kernel)) ggL_law_X9_as
set_option maxRecDepth 100000 in
theorem ggL_law_X8_trace : GoodIn wsL_law wsX8_trace := goodIn_r _ [833, 17, 854, 855, 856, 857, 858, 897] rfl (by decide +kernel)
set_option maxRecDepth 100000 in
theorem gL_law_X8_trace : GoodIn wsL_law (wsV RL 158 RX8 yX8_trace wsX8_trace) := goodIn_app (goodIn_of _ (by decide +kernel)) ggL_law_X8_trace
set_option maxRecDepth 100000 in
theorem ggL_law_X9_trace : GoodIn wsL_law wsX9_trace := goodIn_r _ [837, 802, 859, 860, 861, 862, 863, 864, 865, 866, 867, 868, 869, 870, 871, 872, 873, 874, 875, 876, 877, 878, 879, 880, 881, 882, 883, 884, 885, 886, 887, 888, 889, 890, 891, 892, 893, 894, 895, 896] rfl (by decide +kernel)
set_option maxRecDepth 100000 in
theorem gL_law_X9_trace : GoodIn wsL_law (wsV RL 161 RX9 yX9_trace wsX9_trace) := goodIn_app (goodIn_of _ (by decide +kernel)) ggL_law_X9_trace
set_option maxRecDepth 100000 in
theorem ggL_law_X8_fault : GoodIn wsL_law wsX8_fault := goodIn_r _ [841, 100, 854, 855, 856, 857, 858] rfl (by decide +kernel)
set_option maxRecDepth 100000 in
theorem gL_law_X8_fault : GoodIn wsL_law (wsV RL 162 RX8 yX8_fault wsX8_fault) := goodIn_app (goodIn_of _ (by decide +kernel)) ggL_law_X8_fault
set_option maxRecDepth 100000 in
theorem ggL_law_X9_fault : GoodIn wsL_law wsX9_fault := goodIn_r _ [845, 196, 859, 860, 861, 862, 863, 864, 865, 866, 867, 868, 869, 870, 871, 872, 873, 874, 875, 876, 877, 878, 879, 880, 881, 882, 883, 884, 885, 886, 887, 888, 889, 890, 891, 892, 893, 894, 895, 896] rfl (by decide +kernel)
set_option maxRecDepth 100000 in
theorem gL_law_X9_fault : GoodIn wsL_law (wsV RL 165 RX9 yX9_fault wsX9_fault) := goodIn_app (goodIn_of _ (by decide +kernel)) ggL_law_X9_fault
set_option maxRecDepth 100000 in
theorem ggL_law_X8_many : GoodIn wsL_law wsX8_many := goodIn_r _ [849, 21, 854, 855, 856, 857, 858, 898, 899, 900, 901, 902, 903, 904, 905, 919, 920, 921] rfl (by decide +kernel)
set_option maxRecDepth 100000 in
theorem gL_law_X8_many : GoodIn wsL_law (wsV RL 166 RX8 yX8_many wsX8_many) := goodIn_app (goodIn_of _ (by decide +kernel)) ggL_law_X8_many
set_option maxRecDepth 100000 in
theorem ggL_law_X9_many : GoodIn wsL_law wsX9_many := goodIn_r _ [853, 178, 181, 182, 183, 184, 180, 859, 860, 861, 862, 863, 864, 865, 866, 867, 868, 869, 870, 871, 872, 873, 874, 875, 876, 877, 878, 879, 880, 881, 882, 883, 884, 885, 886, 887, 888, 889, 890, 891, 892, 893, 894, 895, 896] rfl (by decide +kernel)
set_option maxRecDepth 100000 in
theorem gL_law_X9_many : GoodIn wsL_law (wsV RL 169 RX9 yX9_many wsX9_many) := goodIn_app (goodIn_of _ (by decide +kernel)) ggL_law_X9_many
