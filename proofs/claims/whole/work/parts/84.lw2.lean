set_option maxRecDepth 100000 in
theorem ggL_law0_X8_planned : GoodIn wsL_law0 wsX8_planned := goodIn_r _ [689, 27, 548, 549, 550, 2, 551, 24, 417, 418, 419, 23, 420, 64, 621, 622, 623, 690, 691, 692, 29, 693, 561, 562, 563, 564, 77, 93, 442, 443, 444, 445, 565, 566, 567, 568, 61, 906, 907, 908, 909, 910, 911, 912, 934, 935, 936, 937, 938, 939, 940, 941, 942, 943, 944, 945] (by decide +kernel) (by decide +kernel)
set_option maxRecDepth 100000 in
theorem gL_law0_X8_planned : GoodIn wsL_law0 (wsV RL 71 RX8 yX8_planned wsX8_planned) := goodIn_app (goodIn_of _ (by decide +kernel)) ggL_law0_X8_planned
set_option maxRecDepth 100000 in
theorem ggL_law0_X9_planned : GoodIn wsL_law0 wsX9_planned := goodIn_r _ [697, 152, 493, 494, 495, 5, 496, 135, 380, 381, 382, 636, 637, 638, 600, 601, 602, 603, 518, 519, 520, 521, 514, 515, 516, 517, 913, 914, 915, 916, 917, 918, 919, 920, 921, 922, 923, 924, 925, 926, 927] (by decide +kernel) (by decide +kernel)
set_option maxRecDepth 100000 in
theorem gL_law0_X9_planned : GoodIn wsL_law0 (wsV RL 74 RX9 yX9_planned wsX9_planned) := goodIn_app (goodIn_of _ (by decide +kernel)) ggL_law0_X9_planned
set_option maxRecDepth 100000 in
theorem ggL_law0_X8_reaches : GoodIn wsL_law0 wsX8_reaches := goodIn_r _ [701, 27, 34, 673, 674, 675, 2, 676, 425, 548, 549, 550, 551, 24, 417, 418, 419, 23, 420, 64, 426, 427, 428, 83, 429, 88, 702, 703, 704, 29, 705, 84, 706, 707, 190, 191, 192, 577, 578, 579, 93, 454, 455, 456, 457, 78, 458, 459, 460, 461, 462, 561, 562, 563, 564, 77, 442, 443, 444, 445, 565, 566, 567, 568, 61, 708, 709, 710, 711, 60, 712, 713, 714, 715, 906, 907, 908, 909, 910, 911, 912, 939, 940, 941, 942, 943, 944, 945, 934, 935, 936, 937, 938, 954, 955, 956, 957, 958, 959, 960, 961, 962] (by decide +kernel) (by decide +kernel)
set_option maxRecDepth 100000 in
theorem gL_law0_X8_reaches : GoodIn wsL_law0 (wsV RL 75 RX8 yX8_reaches wsX8_reaches) := goodIn_app (goodIn_of _ (by decide +kernel)) ggL_law0_X8_reaches
set_option maxRecDepth 100000 in
theorem ggL_law0_X9_reaches : GoodIn wsL_law0 wsX9_reaches := goodIn_r _ [719, 152, 135, 489, 490, 491, 5, 492, 493, 494, 495, 496, 380, 381, 382, 497, 498, 499, 500, 481, 482, 483, 484, 522, 523, 524, 525, 514, 515, 516, 517, 600, 601, 602, 603, 518, 519, 520, 521, 913, 914, 915, 916, 917, 918, 919, 920, 921, 922, 923, 924, 925, 926, 927] (by decide +kernel) (by decide +kernel)
set_option maxRecDepth 100000 in
theorem gL_law0_X9_reaches : GoodIn wsL_law0 (wsV RL 78 RX9 yX9_reaches wsX9_reaches) := goodIn_app (goodIn_of _ (by decide +kernel)) ggL_law0_X9_reaches
set_option maxRecDepth 100000 in
theorem ggL_law0_X8_cost : GoodIn wsL_law0 wsX8_cost := goodIn_r _ [723, 724, 725, 726, 2, 727, 27, 728, 729, 730, 731, 34, 673, 674, 675, 676, 425, 548, 549, 550, 551, 24, 417, 418, 419, 23, 420, 64, 426, 427, 428, 83, 429, 88, 621, 622, 623, 732, 733, 734, 626, 455, 456, 29, 457, 78, 458, 459, 460, 461, 84, 462, 735, 736, 737, 738, 739, 740, 191, 741, 742, 624, 562, 563, 564, 77, 93, 442, 443, 444, 445, 565, 566, 567, 568, 61, 743, 744, 745, 746, 62, 747, 578, 579, 906, 907, 908, 909, 910, 911, 912, 939, 940, 941, 942, 943, 944, 945, 934, 935, 936, 937, 938, 954, 955, 956, 957, 958, 959, 960, 961, 962] (by decide +kernel) (by decide +kernel)
set_option maxRecDepth 100000 in
theorem gL_law0_X8_cost : GoodIn wsL_law0 (wsV RL 79 RX8 yX8_cost wsX8_cost) := goodIn_app (goodIn_of _ (by decide +kernel)) ggL_law0_X8_cost
set_option maxRecDepth 100000 in
theorem ggL_law0_X9_cost : GoodIn wsL_law0 wsX9_cost := goodIn_r _ [751, 152, 752, 753, 754, 5, 755, 489, 490, 491, 492, 493, 494, 495, 496, 135, 380, 381, 382, 497, 498, 499, 500, 481, 482, 483, 484, 522, 523, 524, 525, 514, 515, 516, 517, 756, 757, 758, 759, 600, 601, 602, 603, 518, 519, 520, 521, 913, 914, 915, 916, 917, 918, 919, 920, 921, 922, 923, 924, 925, 926, 927] (by decide +kernel) (by decide +kernel)
set_option maxRecDepth 100000 in
theorem gL_law0_X9_cost : GoodIn wsL_law0 (wsV RL 82 RX9 yX9_cost wsX9_cost) := goodIn_app (goodIn_of _ (by decide +kernel)) ggL_law0_X9_cost
set_option maxRecDepth 100000 in
theorem ggL_law0_L_due : GoodIn wsL_law0 wsL_dueT := goodIn_r _ [762, 534, 763, 764, 765, 2, 766, 539, 540, 27, 34, 673, 674, 675, 676, 425, 548, 549, 550, 551, 24, 417, 418, 419, 23, 420, 64, 426, 427, 428, 83, 429, 88, 767, 768, 769, 29, 770, 95, 94, 84, 706, 557, 558, 559, 560, 454, 455, 456, 457, 78, 458, 459, 460, 461, 462, 561, 562, 563, 564, 77, 93, 442, 443, 444, 445, 565, 566, 567, 568, 61, 906, 907, 908, 909, 910, 911, 912, 939, 940, 941, 942, 943, 944, 945, 934, 935, 936, 937, 938, 954, 955, 956, 957, 958, 959, 960, 961, 962] (by decide +kernel) (by decide +kernel)
set_option maxRecDepth 100000 in
theorem gL_law0_L_due : GoodIn wsL_law0 (va_wsS RL 83 yL_due wsL_dueT) := goodIn_app (goodIn_of _ (by decide +kernel)) ggL_law0_L_due
set_option maxRecDepth 100000 in
theorem ggL_law0_X9_due : GoodIn wsL_law0 wsX9_due := goodIn_r _ [774, 152, 489, 490, 491, 5, 492, 493, 494, 495, 496, 135, 380, 381, 382, 497, 498, 499, 500, 775, 776, 777, 778, 481, 482, 483, 484, 596, 597, 598, 599, 522, 523, 524, 525, 514, 515, 516, 517, 600, 601, 602, 603, 518, 519, 520, 521, 588, 589, 590, 591, 913, 914, 915, 916, 917, 918, 919, 920, 921, 922, 923, 924, 925, 926, 927] (by decide +kernel) (by decide +kernel)
set_option maxRecDepth 100000 in
theorem gL_law0_X9_due : GoodIn wsL_law0 (wsV RL 86 RX9 yX9_due wsX9_due) := goodIn_app (goodIn_of _ (by decide +kernel)) ggL_law0_X9_due
set_option maxRecDepth 100000 in
theorem ggL_law0_X8_plan : GoodIn wsL_law0 wsX8_plan := goodIn_r _ [782, 33, 34, 27, 783, 425, 545, 724, 725, 726, 2, 727, 728, 729, 730, 731, 673, 674, 675, 676, 548, 549, 550, 551, 24, 417, 418, 419, 23, 420, 64, 426, 427, 428, 83, 429, 88, 621, 622, 623, 732, 733, 734, 626, 455, 456, 29, 457, 78, 458, 459, 460, 461, 84, 462, 735, 736, 737, 738, 739, 740, 191, 741, 742, 624, 562, 563, 564, 77, 93, 442, 443, 444, 445, 565, 566, 567, 568, 61, 743, 744, 745, 746, 62, 747, 578, 579, 784, 785, 786, 32, 787, 788, 789, 790, 791, 792, 793, 794, 795, 796, 797, 121, 798, 799, 800, 801, 802, 803, 190, 192, 804, 805, 806, 807, 108, 109, 110, 111, 112, 113, 114, 115, 906, 907, 908, 909, 910, 911, 912, 939, 940, 941, 942, 943, 944, 945, 954, 955, 956, 957, 958, 959, 960, 961, 962, 934, 935, 936, 937, 938, 963, 964, 965, 966, 967, 968, 946, 947, 948] (by decide +kernel) (by decide +kernel)
set_option maxRecDepth 100000 in
theorem gL_law0_X8_plan : GoodIn wsL_law0 (wsV RL 87 RX8 yX8_plan wsX8_plan) := goodIn_app (goodIn_of _ (by decide +kernel)) ggL_law0_X8_plan
set_option maxRecDepth 100000 in
theorem ggL_law0_X9_plan : GoodIn wsL_law0 wsX9_plan := goodIn_r _ [811, 152, 752, 753, 754, 5, 755, 489, 490, 491, 492, 493, 494, 495, 496, 135, 380, 381, 382, 497, 498, 499, 500, 481, 482, 483, 484, 522, 523, 524, 525, 514, 515, 516, 517, 812, 813, 814, 815, 336, 137, 756, 757, 758, 759, 600, 601, 602, 603, 518, 519, 520, 521, 816, 817, 818, 819, 608, 609, 610, 611, 820, 821, 822, 823, 513, 913, 914, 915, 916, 917, 918, 919, 920, 921, 922, 923, 924, 925, 926, 927] (by decide +kernel) (by decide +kernel)
set_option maxRecDepth 100000 in
theorem gL_law0_X9_plan : GoodIn wsL_law0 (wsV RL 90 RX9 yX9_plan wsX9_plan) := goodIn_app (goodIn_of _ (by decide +kernel)) ggL_law0_X9_plan
set_option maxRecDepth 100000 in
theorem ggL_law0_X8_work : GoodIn wsL_law0 wsX8_work := goodIn_r _ [827, 34, 27, 828, 728, 729, 730, 2, 731, 673, 674, 675, 676, 425, 548, 549, 550, 551, 24, 417, 418, 419, 23, 420, 64, 426, 427, 428, 83, 429, 88, 621, 622, 623, 732, 733, 734, 829, 830, 831, 832, 33, 784, 785, 786, 32, 787, 788, 789, 790, 791, 792, 793, 794, 795, 796, 797, 121, 798, 799, 800, 801, 802, 803, 190, 191, 192, 804, 805, 806, 807, 108, 109, 110, 111, 112, 113, 114, 115, 906, 907, 908, 909, 910, 911, 912, 939, 940, 941, 942, 943, 944, 945, 934, 935, 936, 937, 938, 954, 955, 956, 957, 958, 959, 960, 961, 962, 963, 964, 965, 966, 967, 968, 946, 947, 948] (by decide +kernel) (by decide +kernel)
set_option maxRecDepth 100000 in
theorem gL_law0_X8_work : GoodIn wsL_law0 (wsV RL 91 RX8 yX8_work wsX8_work) := goodIn_app (goodIn_of _ (by decide +kernel)) ggL_law0_X8_work
set_option maxRecDepth 100000 in
theorem ggL_law0_X9_work : GoodIn wsL_law0 wsX9_work := goodIn_r _ [836, 152, 489, 490, 491, 5, 492, 493, 494, 495, 496, 135, 380, 381, 382, 497, 498, 499, 500, 481, 482, 483, 484, 522, 523, 524, 525, 514, 515, 516, 517, 812, 813, 814, 815, 336, 137, 518, 519, 520, 521, 820, 821, 822, 823, 513, 913, 914, 915, 916, 917, 918, 919, 920, 921, 922, 923, 924, 925, 926, 927] (by decide +kernel) (by decide +kernel)
set_option maxRecDepth 100000 in
theorem gL_law0_X9_work : GoodIn wsL_law0 (wsV RL 95 RX9 yX9_work wsX9_work) := goodIn_app (goodIn_of _ (by decide +kernel)) ggL_law0_X9_work
set_option maxRecDepth 100000 in
theorem ggL_law0_X8_sick : GoodIn wsL_law0 wsX8_sick := goodIn_r _ [840, 34, 27, 828, 728, 729, 730, 2, 731, 673, 674, 675, 676, 425, 548, 549, 550, 551, 24, 417, 418, 419, 23, 420, 64, 426, 427, 428, 83, 429, 88, 621, 622, 623, 829, 830, 831, 832, 33, 784, 785, 786, 32, 787, 788, 789, 790, 791, 792, 793, 794, 795, 796, 797, 121, 798, 799, 800, 801, 802, 803, 190, 191, 192, 804, 805, 806, 807, 108, 109, 110, 111, 112, 113, 114, 115, 906, 907, 908, 909, 910, 911, 912, 939, 940, 941, 942, 943, 944, 945, 934, 935, 936, 937, 938, 954, 955, 956, 957, 958, 959, 960, 961, 962, 963, 964, 965, 966, 967, 968, 946, 947, 948] (by decide +kernel) (by decide +kernel)
set_option maxRecDepth 100000 in
theorem gL_law0_X8_sick : GoodIn wsL_law0 (wsV RL 96 RX8 yX8_sick wsX8_sick) := goodIn_app (goodIn_of _ (by decide +kernel)) ggL_law0_X8_sick
set_option maxRecDepth 100000 in
theorem ggL_law0_X9_sick : GoodIn wsL_law0 wsX9_sick := goodIn_r _ [844, 152, 489, 490, 491, 5, 492, 493, 494, 495, 496, 135, 380, 381, 382, 497, 498, 499, 500, 481, 482, 483, 484, 522, 523, 524, 525, 514, 515, 516, 517, 608, 609, 610, 611, 812, 813, 814, 815, 336, 137, 518, 519, 520, 521, 820, 821, 822, 823, 513, 913, 914, 915, 916, 917, 918, 919, 920, 921, 922, 923, 924, 925, 926, 927] (by decide +kernel) (by decide +kernel)
set_option maxRecDepth 100000 in
theorem gL_law0_X9_sick : GoodIn wsL_law0 (wsV RL 100 RX9 yX9_sick wsX9_sick) := goodIn_app (goodIn_of _ (by decide +kernel)) ggL_law0_X9_sick
set_option maxRecDepth 100000 in
theorem ggL_law0_X8_book : GoodIn wsL_law0 wsX8_book := goodIn_r _ [848, 27, 828, 728, 729, 730, 2, 731, 34, 673, 674, 675, 676, 425, 548, 549, 550, 551, 24, 417, 418, 419, 23, 420, 64, 426, 427, 428, 83, 429, 88, 621, 622, 623, 552, 553, 554, 29, 555, 84, 95, 556, 557, 558, 559, 560, 454, 455, 456, 457, 78, 458, 459, 460, 461, 462, 561, 562, 563, 564, 77, 93, 442, 443, 444, 445, 565, 566, 567, 568, 61, 624, 829, 830, 831, 832, 33, 784, 785, 786, 32, 787, 788, 789, 790, 791, 792, 793, 794, 795, 796, 797, 121, 798, 799, 800, 801, 802, 803, 190, 191, 192, 804, 805, 806, 807, 108, 109, 110, 111, 112, 113, 114, 115, 906, 907, 908, 909, 910, 911, 912, 939, 940, 941, 942, 943, 944, 945, 934, 935, 936, 937, 938, 954, 955, 956, 957, 958, 959, 960, 961, 962, 963, 964, 965, 966, 967, 968, 946, 947, 948] (by decide +kernel) (by decide +kernel)
set_option maxRecDepth 100000 in
theorem gL_law0_X8_book : GoodIn wsL_law0 (wsV RL 101 RX8 yX8_book wsX8_book) := goodIn_app (goodIn_of _ (by decide +kernel)) ggL_law0_X8_book
set_option maxRecDepth 100000 in
theorem ggL_law0_X9_book : GoodIn wsL_law0 wsX9_book := goodIn_r _ [852, 152, 489, 490, 491, 5, 492, 493, 494, 495, 496, 135, 380, 381, 382, 497, 498, 499, 500, 481, 482, 483, 484, 522, 523, 524, 525, 514, 515, 516, 517, 608, 609, 610, 611, 592, 593, 594, 595, 596, 597, 598, 599, 600, 601, 602, 603, 518, 519, 520, 521, 812, 813, 814, 815, 336, 137, 820, 821, 822, 823, 513, 913, 914, 915, 916, 917, 918, 919, 920, 921, 922, 923, 924, 925, 926, 927] (by decide +kernel) (by decide +kernel)
set_option maxRecDepth 100000 in
theorem gL_law0_X9_book : GoodIn wsL_law0 (wsV RL 105 RX9 yX9_book wsX9_book) := goodIn_app (goodIn_of _ (by decide +kernel)) ggL_law0_X9_book
set_option maxRecDepth 100000 in
theorem ggL_law0_X8_endDay : GoodIn wsL_law0 wsX8_endDay := goodIn_r _ [856, 34, 33, 27, 24, 425, 621, 622, 2, 623, 857, 795, 796, 32, 797, 121, 798, 799, 788, 800, 801, 802, 803, 190, 191, 192, 804, 805, 806, 83, 807, 108, 109, 110, 111, 112, 113, 114, 115, 88, 417, 418, 419, 23, 420, 64, 426, 427, 428, 429, 858, 859, 860, 29, 861, 80, 93, 84, 862, 454, 455, 456, 457, 78, 458, 459, 460, 461, 462, 573, 574, 575, 576, 577, 578, 579, 561, 562, 563, 564, 77, 442, 443, 444, 445, 565, 566, 567, 568, 61, 863, 864, 865, 866, 706, 867, 868, 94, 869, 870, 708, 709, 710, 711, 60, 712, 713, 714, 715, 871, 648, 649, 650, 651, 652, 653, 654, 655, 656, 657, 658, 659, 628, 629, 630, 872, 678, 679, 680, 906, 907, 908, 909, 910, 911, 912, 939, 940, 941, 942, 943, 944, 945, 946, 947, 948, 963, 964, 965, 966, 967, 968, 954, 955, 956, 957, 958, 959, 960, 961, 962, 934, 935, 936, 937, 938] (by decide +kernel) (by decide +kernel)
set_option maxRecDepth 100000 in
theorem gL_law0_X8_endDay : GoodIn wsL_law0 (wsV RL 106 RX8 yX8_endDay wsX8_endDay) := goodIn_app (goodIn_of _ (by decide +kernel)) ggL_law0_X8_endDay
set_option maxRecDepth 100000 in
theorem ggL_law0_X9_endDay : GoodIn wsL_law0 wsX9_endDay := goodIn_r _ [876, 152, 135, 481, 482, 483, 5, 484, 812, 813, 814, 815, 336, 137, 489, 490, 491, 492, 493, 494, 495, 496, 380, 381, 382, 497, 498, 499, 500, 877, 878, 879, 880, 522, 523, 524, 525, 514, 515, 516, 517, 608, 609, 610, 611, 600, 601, 602, 603, 518, 519, 520, 521, 816, 817, 818, 819, 664, 665, 666, 667, 639, 640, 641, 642, 820, 821, 822, 823, 513, 913, 914, 915, 916, 917, 918, 919, 920, 921, 922, 923, 924, 925, 926, 927] (by decide +kernel) (by decide +kernel)
set_option maxRecDepth 100000 in
theorem gL_law0_X9_endDay : GoodIn wsL_law0 (wsV RL 109 RX9 yX9_endDay wsX9_endDay) := goodIn_app (goodIn_of _ (by decide +kernel)) ggL_law0_X9_endDay
set_option maxRecDepth 100000 in
theorem ggL_law0_L_leave : GoodIn wsL_law0 wsL_leaveT := goodIn_r _ [883, 534, 884, 885, 886, 2, 887, 539, 540, 33, 34, 27, 425, 547, 541, 888, 673, 674, 675, 676, 548, 549, 550, 551, 24, 417, 418, 419, 23, 420, 64, 426, 427, 428, 83, 429, 88, 857, 795, 796, 32, 797, 121, 798, 799, 788, 800, 801, 802, 803, 190, 191, 192, 804, 805, 806, 807, 108, 109, 110, 111, 112, 113, 114, 115, 767, 768, 769, 29, 770, 95, 94, 84, 706, 557, 558, 559, 560, 454, 455, 456, 457, 78, 458, 459, 460, 461, 462, 561, 562, 563, 564, 77, 93, 442, 443, 444, 445, 565, 566, 567, 568, 61, 906, 907, 908, 909, 910, 911, 912, 939, 940, 941, 942, 943, 944, 945, 954, 955, 956, 957, 958, 959, 960, 961, 962, 934, 935, 936, 937, 938, 946, 947, 948, 963, 964, 965, 966, 967, 968] (by decide +kernel) (by decide +kernel)
set_option maxRecDepth 100000 in
theorem gL_law0_L_leave : GoodIn wsL_law0 (va_wsS RL 110 yL_leave wsL_leaveT) := goodIn_app (goodIn_of _ (by decide +kernel)) ggL_law0_L_leave
set_option maxRecDepth 100000 in
theorem ggL_law0_X9_leave : GoodIn wsL_law0 wsX9_leave := goodIn_r _ [892, 152, 489, 490, 491, 5, 492, 493, 494, 495, 496, 135, 380, 381, 382, 497, 498, 499, 500, 588, 589, 590, 591, 812, 813, 814, 815, 336, 137, 775, 776, 777, 778, 481, 482, 483, 484, 596, 597, 598, 599, 522, 523, 524, 525, 514, 515, 516, 517, 600, 601, 602, 603, 518, 519, 520, 521, 816, 817, 818, 819, 820, 821, 822, 823, 513, 913, 914, 915, 916, 917, 918, 919, 920, 921, 922, 923, 924, 925, 926, 927] (by decide +kernel) (by decide +kernel)
set_option maxRecDepth 100000 in
theorem gL_law0_X9_leave : GoodIn wsL_law0 (wsV RL 112 RX9 yX9_leave wsX9_leave) := goodIn_app (goodIn_of _ (by decide +kernel)) ggL_law0_X9_leave
set_option maxRecDepth 100000 in
theorem ggL_law0_X8_undo : GoodIn wsL_law0 wsX8_undo := goodIn_r _ [896, 33, 325, 27, 34, 897, 898, 899, 32, 900, 798, 802, 121, 801, 800, 799, 901, 788, 790, 789, 791, 792, 793, 804, 805, 806, 83, 807, 108, 109, 110, 111, 112, 113, 114, 115, 88, 622, 2, 623, 906, 907, 908, 909, 910, 911, 912, 946, 947, 948, 939, 940, 941, 942, 943, 944, 945, 963, 964, 965, 966, 967, 968, 954, 955, 956, 957, 958, 959, 960, 961, 962] (by decide +kernel) (by decide +kernel)
set_option maxRecDepth 100000 in
theorem gL_law0_X8_undo : GoodIn wsL_law0 (wsV RL 113 RX8 yX8_undo wsX8_undo) := goodIn_app (goodIn_of _ (by decide +kernel)) ggL_law0_X8_undo
set_option maxRecDepth 100000 in
theorem ggL_law0_X9_undo : GoodIn wsL_law0 wsX9_undo := goodIn_r _ [905, 152, 336, 135, 137, 913, 914, 915, 916, 917, 918, 919, 920, 921, 922, 923, 924, 925, 926, 927] (by decide +kernel) (by decide +kernel)
set_option maxRecDepth 100000 in
theorem gL_law0_X9_undo : GoodIn wsL_law0 (wsV RL 116 RX9 yX9_undo wsX9_undo) := goodIn_app (goodIn_of _ (by decide +kernel)) ggL_law0_X9_undo
