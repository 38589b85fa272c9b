set_option maxRecDepth 100000 in
theorem ggL_law0_X8_init : GoodIn wsL_law0 wsX8_init := goodIn_r _ [9, 10, 11, 12, 13, 14, 15, 16, 17, 18, 19, 20, 21, 22, 23, 24, 25, 26, 27, 28, 29, 30, 31, 32, 33, 34, 35, 36, 37, 38, 39, 40, 41, 42, 43, 44, 45, 46, 47, 48, 49, 50, 51, 52, 53, 54, 55, 56, 57, 58, 59, 60, 61, 62, 63, 64, 65, 66, 67, 68, 69, 70, 71, 72, 73, 74, 75, 76, 77, 78, 79, 80, 81, 82, 83, 84, 85, 86, 87, 88, 89, 90, 91, 92, 93, 94, 95, 96, 97, 98, 99, 100, 101, 102, 103, 104, 105, 106, 107, 108, 109, 110, 111, 112, 113, 114, 115, 116, 117, 118, 119, 120, 121, 122, 123, 124, 125, 126, 127, 128, 129, 928, 929, 906, 907, 908, 909, 910, 911, 912, 930, 931, 932, 933, 934, 935, 936, 937, 938, 939, 940, 941, 942, 943, 944, 945, 946, 947, 948, 949, 950, 951, 952, 953, 954, 955, 956, 957, 958, 959, 960, 961, 962, 963, 964, 965, 966, 967, 968] (by decide +kernel) (by decide +kernel)
set_option maxRecDepth 100000 in
theorem gL_law0_X8_init : GoodIn wsL_law0 (wsX8_init) := ggL_law0_X8_init
set_option maxRecDepth 100000 in
theorem ggL_law0_X9_init : GoodIn wsL_law0 wsX9_init := goodIn_r _ [132, 133, 11, 12, 59, 134, 135, 136, 137, 913, 914, 915, 916, 917, 918, 919, 920, 921, 922, 923, 924, 925, 926, 927] (by decide +kernel) (by decide +kernel)
set_option maxRecDepth 100000 in
theorem gL_law0_X9_init : GoodIn wsL_law0 (wsX9_init) := ggL_law0_X9_init
set_option maxRecDepth 100000 in
theorem ggL_law0_X8_feed : GoodIn wsL_law0 wsX8_feed := goodIn_r _ [141, 16, 142, 143, 144, 145, 15, 146, 147, 39, 906, 907, 908, 909, 910, 911, 912, 928, 929] (by decide +kernel) (by decide +kernel)
set_option maxRecDepth 100000 in
theorem gL_law0_X8_feed : GoodIn wsL_law0 (wsV RL 26 RX8 yX8_feed wsX8_feed) := goodIn_app (goodIn_of _ (by decide +kernel)) ggL_law0_X8_feed
set_option maxRecDepth 100000 in
theorem ggL_law0_X9_feed : GoodIn wsL_law0 wsX9_feed := goodIn_r _ [151, 152, 153, 154, 155, 156, 5, 157, 134, 913, 914, 915, 916, 917, 918, 919, 920, 921, 922, 923, 924, 925, 926, 927] (by decide +kernel) (by decide +kernel)
set_option maxRecDepth 100000 in
theorem gL_law0_X9_feed : GoodIn wsL_law0 (wsV RL 30 RX9 yX9_feed wsX9_feed) := goodIn_app (goodIn_of _ (by decide +kernel)) ggL_law0_X9_feed
set_option maxRecDepth 100000 in
theorem ggL_law0_X8_end : GoodIn wsL_law0 wsX8_end := goodIn_r _ [161, 16, 142, 906, 907, 908, 909, 910, 911, 912, 928, 929] (by decide +kernel) (by decide +kernel)
set_option maxRecDepth 100000 in
theorem gL_law0_X8_end : GoodIn wsL_law0 (wsV RL 31 RX8 yX8_end wsX8_end) := goodIn_app (goodIn_of _ (by decide +kernel)) ggL_law0_X8_end
set_option maxRecDepth 100000 in
theorem ggL_law0_X9_end : GoodIn wsL_law0 wsX9_end := goodIn_r _ [165, 152, 153, 913, 914, 915, 916, 917, 918, 919, 920, 921, 922, 923, 924, 925, 926, 927] (by decide +kernel) (by decide +kernel)
set_option maxRecDepth 100000 in
theorem gL_law0_X9_end : GoodIn wsL_law0 (wsV RL 35 RX9 yX9_end wsX9_end) := goodIn_app (goodIn_of _ (by decide +kernel)) ggL_law0_X9_end
set_option maxRecDepth 100000 in
theorem ggL_law0_X8_text : GoodIn wsL_law0 wsX8_text := goodIn_r _ [169, 20, 25, 16, 142, 170, 171, 172, 19, 173, 48, 174, 44, 175, 176, 177, 178, 66, 67, 23, 68, 64, 60, 69, 70, 71, 72, 179, 180, 181, 47, 182, 183, 184, 185, 186, 187, 53, 188, 189, 190, 191, 192, 193, 194, 195, 196, 197, 198, 199, 200, 201, 202, 203, 204, 205, 206, 207, 208, 209, 210, 211, 212, 213, 214, 215, 216, 217, 218, 219, 220, 221, 222, 223, 224, 225, 226, 227, 228, 229, 230, 231, 232, 233, 234, 235, 236, 237, 238, 239, 240, 241, 242, 243, 244, 245, 246, 247, 248, 249, 250, 251, 252, 253, 254, 255, 256, 257, 258, 259, 260, 261, 262, 263, 264, 265, 266, 267, 268, 269, 270, 271, 272, 273, 274, 275, 276, 277, 278, 279, 280, 281, 282, 283, 284, 285, 286, 61, 62, 63, 287, 288, 289, 290, 291, 292, 293, 294, 295, 296, 297, 298, 299, 300, 301, 302, 303, 304, 305, 306, 307, 308, 309, 310, 311, 312, 313, 314, 315, 316, 317, 318, 319, 320, 321, 322, 323, 2, 324, 24, 34, 33, 325, 27, 326, 90, 91, 29, 92, 93, 94, 95, 84, 77, 78, 80, 96, 97, 98, 99, 100, 101, 102, 103, 104, 105, 106, 83, 107, 108, 109, 110, 111, 112, 113, 114, 115, 88, 906, 907, 908, 909, 910, 911, 912, 928, 929, 930, 931, 932, 933, 949, 950, 951, 952, 953, 934, 935, 936, 937, 938, 946, 947, 948, 939, 940, 941, 942, 943, 944, 945, 954, 955, 956, 957, 958, 959, 960, 961, 962] (by decide +kernel) (by decide +kernel)
set_option maxRecDepth 100000 in
theorem gL_law0_X8_text : GoodIn wsL_law0 (wsV RL 36 RX8 yX8_text wsX8_text) := goodIn_app (goodIn_of _ (by decide +kernel)) ggL_law0_X8_text
set_option maxRecDepth 100000 in
theorem ggL_law0_X9_text : GoodIn wsL_law0 wsX9_text := goodIn_r _ [330, 152, 153, 331, 332, 333, 136, 334, 335, 135, 336, 337, 338, 339, 5, 340, 134, 341, 342, 343, 344, 345, 346, 347, 348, 349, 350, 351, 352, 353, 354, 355, 356, 357, 358, 359, 360, 361, 362, 363, 364, 365, 366, 367, 368, 369, 370, 371, 372, 373, 374, 375, 376, 377, 378, 379, 380, 381, 382, 383, 384, 385, 386, 387, 388, 389, 390, 391, 392, 393, 394, 395, 396, 397, 398, 399, 400, 401, 402, 913, 914, 915, 916, 917, 918, 919, 920, 921, 922, 923, 924, 925, 926, 927] (by decide +kernel) (by decide +kernel)
set_option maxRecDepth 100000 in
theorem gL_law0_X9_text : GoodIn wsL_law0 (wsV RL 40 RX9 yX9_text wsX9_text) := goodIn_app (goodIn_of _ (by decide +kernel)) ggL_law0_X9_text
set_option maxRecDepth 100000 in
theorem ggL_law0_X8_fault : GoodIn wsL_law0 wsX8_fault := goodIn_r _ [406, 20, 407, 906, 907, 908, 909, 910, 911, 912, 930, 931, 932, 933] (by decide +kernel) (by decide +kernel)
set_option maxRecDepth 100000 in
theorem gL_law0_X8_fault : GoodIn wsL_law0 (wsV RL 41 RX8 yX8_fault wsX8_fault) := goodIn_app (goodIn_of _ (by decide +kernel)) ggL_law0_X8_fault
set_option maxRecDepth 100000 in
theorem ggL_law0_X9_fault : GoodIn wsL_law0 wsX9_fault := goodIn_r _ [411, 152, 332, 913, 914, 915, 916, 917, 918, 919, 920, 921, 922, 923, 924, 925, 926, 927] (by decide +kernel) (by decide +kernel)
set_option maxRecDepth 100000 in
theorem gL_law0_X9_fault : GoodIn wsL_law0 (wsV RL 44 RX9 yX9_fault wsX9_fault) := goodIn_app (goodIn_of _ (by decide +kernel)) ggL_law0_X9_fault
set_option maxRecDepth 100000 in
theorem ggL_law0_X8_now : GoodIn wsL_law0 wsX8_now := goodIn_r _ [415, 34, 24, 33, 325, 16, 142, 416, 417, 418, 419, 23, 420, 64, 421, 422, 423, 2, 424, 27, 425, 426, 427, 428, 83, 429, 88, 430, 431, 432, 433, 434, 435, 436, 437, 438, 439, 440, 29, 441, 442, 443, 444, 445, 77, 446, 447, 448, 449, 450, 451, 452, 453, 454, 455, 456, 457, 78, 458, 459, 460, 461, 84, 462, 463, 464, 465, 466, 467, 468, 469, 470, 471, 472, 473, 474, 475, 111, 112, 114, 113, 906, 907, 908, 909, 910, 911, 912, 946, 947, 948, 928, 929, 934, 935, 936, 937, 938, 939, 940, 941, 942, 943, 944, 945, 954, 955, 956, 957, 958, 959, 960, 961, 962] (by decide +kernel) (by decide +kernel)
set_option maxRecDepth 100000 in
theorem gL_law0_X8_now : GoodIn wsL_law0 (wsV RL 45 RX8 yX8_now wsX8_now) := goodIn_app (goodIn_of _ (by decide +kernel)) ggL_law0_X8_now
set_option maxRecDepth 100000 in
theorem ggL_law0_X9_now : GoodIn wsL_law0 wsX9_now := goodIn_r _ [479, 152, 135, 336, 153, 480, 481, 482, 483, 5, 484, 485, 486, 487, 488, 489, 490, 491, 492, 493, 494, 495, 496, 380, 381, 382, 497, 498, 499, 500, 501, 502, 503, 504, 505, 506, 507, 508, 509, 510, 511, 512, 513, 514, 515, 516, 517, 518, 519, 520, 521, 522, 523, 524, 525, 526, 527, 528, 529, 913, 914, 915, 916, 917, 918, 919, 920, 921, 922, 923, 924, 925, 926, 927] (by decide +kernel) (by decide +kernel)
set_option maxRecDepth 100000 in
theorem gL_law0_X9_now : GoodIn wsL_law0 (wsV RL 48 RX9 yX9_now wsX9_now) := goodIn_app (goodIn_of _ (by decide +kernel)) ggL_law0_X9_now
set_option maxRecDepth 100000 in
theorem ggL_law0_L_worker : GoodIn wsL_law0 wsL_workerT := goodIn_r _ [533, 534, 535, 536, 537, 2, 538, 539, 540, 27, 425, 541, 542, 543, 544, 545, 546, 547, 34, 467, 548, 549, 550, 551, 24, 417, 418, 419, 23, 420, 64, 552, 553, 554, 29, 555, 84, 95, 556, 427, 428, 83, 429, 88, 557, 558, 559, 560, 454, 455, 456, 457, 78, 458, 459, 460, 461, 462, 561, 562, 563, 564, 77, 93, 442, 443, 444, 445, 565, 566, 567, 568, 61, 569, 570, 571, 572, 573, 574, 575, 576, 577, 578, 191, 579, 580, 581, 582, 583, 426, 906, 907, 908, 909, 910, 911, 912, 939, 940, 941, 942, 943, 944, 945, 954, 955, 956, 957, 958, 959, 960, 961, 962, 934, 935, 936, 937, 938] (by decide +kernel) (by decide +kernel)
set_option maxRecDepth 100000 in
theorem gL_law0_L_worker : GoodIn wsL_law0 (va_wsS RL 49 yL_worker wsL_workerT) := goodIn_app (goodIn_of _ (by decide +kernel)) ggL_law0_L_worker
set_option maxRecDepth 100000 in
theorem ggL_law0_X9_worker : GoodIn wsL_law0 wsX9_worker := goodIn_r _ [587, 152, 493, 494, 495, 5, 496, 135, 380, 381, 382, 588, 589, 590, 591, 497, 498, 499, 500, 592, 593, 594, 595, 596, 597, 598, 599, 522, 523, 524, 525, 514, 515, 516, 517, 600, 601, 602, 603, 518, 519, 520, 521, 604, 605, 606, 607, 481, 482, 483, 484, 608, 609, 610, 611, 505, 506, 507, 508, 509, 510, 511, 512, 513, 913, 914, 915, 916, 917, 918, 919, 920, 921, 922, 923, 924, 925, 926, 927] (by decide +kernel) (by decide +kernel)
set_option maxRecDepth 100000 in
theorem gL_law0_X9_worker : GoodIn wsL_law0 (wsV RL 54 RX9 yX9_worker wsX9_worker) := goodIn_app (goodIn_of _ (by decide +kernel)) ggL_law0_X9_worker
set_option maxRecDepth 100000 in
theorem ggL_law0_X9_thrown : GoodIn wsL_law0 wsX9_thrown := goodIn_r _ [615, 152, 913, 914, 915, 916, 917, 918, 919, 920, 921, 922, 923, 924, 925, 926, 927] (by decide +kernel) (by decide +kernel)
set_option maxRecDepth 100000 in
theorem gL_law0_X9_thrown : GoodIn wsL_law0 (wsV RL 55 RX9 yX9_thrown wsX9_thrown) := goodIn_app (goodIn_of _ (by decide +kernel)) ggL_law0_X9_thrown
set_option maxRecDepth 100000 in
theorem ggL_law0_X8_day : GoodIn wsL_law0 wsX8_day := goodIn_r _ [619, 27, 620, 548, 549, 550, 2, 551, 24, 417, 418, 419, 23, 420, 64, 621, 622, 623, 624, 562, 563, 29, 564, 77, 93, 442, 443, 444, 445, 565, 566, 567, 568, 61, 625, 574, 575, 576, 78, 577, 578, 191, 579, 626, 455, 456, 457, 458, 459, 460, 461, 84, 462, 627, 628, 629, 630, 454, 561, 573, 631, 906, 907, 908, 909, 910, 911, 912, 939, 940, 941, 942, 943, 944, 945, 934, 935, 936, 937, 938, 954, 955, 956, 957, 958, 959, 960, 961, 962] (by decide +kernel) (by decide +kernel)
set_option maxRecDepth 100000 in
theorem gL_law0_X8_day : GoodIn wsL_law0 (wsV RL 58 RX8 yX8_day wsX8_day) := goodIn_app (goodIn_of _ (by decide +kernel)) ggL_law0_X8_day
set_option maxRecDepth 100000 in
theorem ggL_law0_X9_day : GoodIn wsL_law0 wsX9_day := goodIn_r _ [635, 152, 493, 494, 495, 5, 496, 135, 380, 381, 382, 636, 637, 638, 600, 601, 602, 603, 518, 519, 520, 521, 514, 515, 516, 517, 608, 609, 610, 611, 522, 523, 524, 525, 639, 640, 641, 642, 509, 510, 511, 512, 513, 913, 914, 915, 916, 917, 918, 919, 920, 921, 922, 923, 924, 925, 926, 927] (by decide +kernel) (by decide +kernel)
set_option maxRecDepth 100000 in
theorem gL_law0_X9_day : GoodIn wsL_law0 (wsV RL 62 RX9 yX9_day wsX9_day) := goodIn_app (goodIn_of _ (by decide +kernel)) ggL_law0_X9_day
set_option maxRecDepth 100000 in
theorem ggL_law0_X8_load : GoodIn wsL_law0 wsX8_load := goodIn_r _ [646, 27, 548, 549, 550, 2, 551, 24, 417, 418, 419, 23, 420, 64, 621, 622, 623, 647, 648, 649, 29, 650, 651, 652, 653, 654, 93, 577, 578, 191, 579, 655, 656, 657, 658, 60, 659, 628, 629, 630, 454, 455, 456, 457, 78, 458, 459, 460, 461, 84, 462, 561, 562, 563, 564, 77, 442, 443, 444, 445, 565, 566, 567, 568, 61, 573, 574, 575, 576, 906, 907, 908, 909, 910, 911, 912, 934, 935, 936, 937, 938, 939, 940, 941, 942, 943, 944, 945, 954, 955, 956, 957, 958, 959, 960, 961, 962] (by decide +kernel) (by decide +kernel)
set_option maxRecDepth 100000 in
theorem gL_law0_X8_load : GoodIn wsL_law0 (wsV RL 63 RX8 yX8_load wsX8_load) := goodIn_app (goodIn_of _ (by decide +kernel)) ggL_law0_X8_load
set_option maxRecDepth 100000 in
theorem ggL_law0_X9_load : GoodIn wsL_law0 wsX9_load := goodIn_r _ [663, 152, 135, 493, 494, 495, 5, 496, 380, 381, 382, 636, 637, 638, 664, 665, 666, 667, 639, 640, 641, 642, 522, 523, 524, 525, 514, 515, 516, 517, 608, 609, 610, 611, 600, 601, 602, 603, 518, 519, 520, 521, 913, 914, 915, 916, 917, 918, 919, 920, 921, 922, 923, 924, 925, 926, 927] (by decide +kernel) (by decide +kernel)
set_option maxRecDepth 100000 in
theorem gL_law0_X9_load : GoodIn wsL_law0 (wsV RL 66 RX9 yX9_load wsX9_load) := goodIn_app (goodIn_of _ (by decide +kernel)) ggL_law0_X9_load
set_option maxRecDepth 100000 in
theorem ggL_law0_X8_room : GoodIn wsL_law0 wsX8_room := goodIn_r _ [671, 34, 24, 27, 672, 190, 191, 192, 673, 674, 675, 2, 676, 425, 548, 549, 550, 551, 417, 418, 419, 23, 420, 64, 426, 427, 428, 83, 429, 88, 621, 622, 623, 677, 678, 679, 680, 60, 681, 652, 653, 29, 654, 93, 577, 578, 579, 655, 656, 657, 658, 659, 628, 629, 630, 454, 455, 456, 457, 78, 458, 459, 460, 461, 84, 462, 561, 562, 563, 564, 77, 442, 443, 444, 445, 565, 566, 567, 568, 61, 573, 574, 575, 576, 906, 907, 908, 909, 910, 911, 912, 939, 940, 941, 942, 943, 944, 945, 934, 935, 936, 937, 938, 954, 955, 956, 957, 958, 959, 960, 961, 962] (by decide +kernel) (by decide +kernel)
set_option maxRecDepth 100000 in
theorem gL_law0_X8_room : GoodIn wsL_law0 (wsV RL 67 RX8 yX8_room wsX8_room) := goodIn_app (goodIn_of _ (by decide +kernel)) ggL_law0_X8_room
set_option maxRecDepth 100000 in
theorem ggL_law0_X9_room : GoodIn wsL_law0 wsX9_room := goodIn_r _ [685, 152, 135, 489, 490, 491, 5, 492, 493, 494, 495, 496, 380, 381, 382, 497, 498, 499, 500, 481, 482, 483, 484, 664, 665, 666, 667, 639, 640, 641, 642, 522, 523, 524, 525, 514, 515, 516, 517, 608, 609, 610, 611, 600, 601, 602, 603, 518, 519, 520, 521, 913, 914, 915, 916, 917, 918, 919, 920, 921, 922, 923, 924, 925, 926, 927] (by decide +kernel) (by decide +kernel)
set_option maxRecDepth 100000 in
theorem gL_law0_X9_room : GoodIn wsL_law0 (wsV RL 70 RX9 yX9_room wsX9_room) := goodIn_app (goodIn_of _ (by decide +kernel)) ggL_law0_X9_room
