set_option maxRecDepth 20000 in
theorem ggL_law_X7_init : GoodIn wsL_law wsX7_init := goodIn_r _ [9, 10, 11, 12, 13, 14, 15, 16, 17, 18, 19, 20, 21, 22, 23, 24, 25, 26, 27, 28, 29, 30, 31, 32, 33, 34, 35, 36, 37, 38, 39, 40, 41, 42, 43, 44, 45, 46, 47, 48, 49, 50, 51, 52, 53, 54, 55, 56, 57, 58, 59, 60, 61, 62, 63, 64, 65, 66, 67, 68, 859, 860, 810, 811, 812, 813, 814, 815, 816, 817, 818, 819, 861, 862, 863, 864, 865, 866, 867, 868, 869, 870, 871, 872, 873, 874] (by decide +kernel) (by decide +kernel)
set_option maxRecDepth 20000 in
theorem gL_law_X7_init : GoodIn wsL_law (wsX7_init) := ggL_law_X7_init
set_option maxRecDepth 20000 in
theorem ggL_law_X8_init : GoodIn wsL_law wsX8_init := goodIn_r _ [71, 72, 11, 12, 73, 43, 74, 75, 76, 77, 48, 78, 79, 80, 81, 82, 83, 84, 85, 86, 87, 88, 89, 820, 821, 822, 823, 824, 825, 826, 827, 828, 829, 830, 831, 832, 833, 834, 835, 836, 837, 838, 839, 840, 841, 842, 843, 844, 845, 846, 847, 848, 849, 850, 851, 852, 853, 854, 855, 856, 857, 858] (by decide +kernel) (by decide +kernel)
set_option maxRecDepth 20000 in
theorem gL_law_X8_init : GoodIn wsL_law (wsX8_init) := ggL_law_X8_init
set_option maxRecDepth 20000 in
theorem ggL_law_X7_feed : GoodIn wsL_law wsX7_feed := goodIn_r _ [93, 17, 94, 95, 96, 15, 97, 98, 99, 100, 101, 102, 44, 103, 104, 105, 106, 810, 811, 812, 813, 814, 815, 816, 817, 818, 819, 859, 860] (by decide +kernel) (by decide +kernel)
set_option maxRecDepth 20000 in
theorem gL_law_X7_feed : GoodIn wsL_law (wsV RL 15 RX7 yX7_feed wsX7_feed) := goodIn_app (goodIn_of _ (by decide +kernel)) ggL_law_X7_feed
set_option maxRecDepth 20000 in
theorem ggL_law_X8_feed : GoodIn wsL_law wsX8_feed := goodIn_r _ [110, 111, 112, 73, 74, 820, 821, 822, 823, 824, 825, 826, 827, 828, 829, 830, 831, 832, 833, 834, 835, 836, 837, 838, 839, 840, 841, 842, 843, 844, 845, 846, 847, 848, 849, 850, 851, 852, 853, 854, 855, 856, 857, 858] (by decide +kernel) (by decide +kernel)
set_option maxRecDepth 20000 in
theorem gL_law_X8_feed : GoodIn wsL_law (wsV RL 19 RX8 yX8_feed wsX8_feed) := goodIn_app (goodIn_of _ (by decide +kernel)) ggL_law_X8_feed
set_option maxRecDepth 20000 in
theorem ggL_law_X7_fill : GoodIn wsL_law wsX7_fill := goodIn_r _ [116, 17, 117, 118, 119, 120, 2, 121, 122, 123, 100, 101, 15, 102, 44, 98, 124, 125, 126, 127, 103, 104, 105, 106, 810, 811, 812, 813, 814, 815, 816, 817, 818, 819, 859, 860] (by decide +kernel) (by decide +kernel)
set_option maxRecDepth 20000 in
theorem gL_law_X7_fill : GoodIn wsL_law (wsV RL 20 RX7 yX7_fill wsX7_fill) := goodIn_app (goodIn_of _ (by decide +kernel)) ggL_law_X7_fill
set_option maxRecDepth 20000 in
theorem ggL_law_X8_fill : GoodIn wsL_law wsX8_fill := goodIn_r _ [131, 111, 74, 112, 132, 133, 134, 5, 135, 136, 73, 820, 821, 822, 823, 824, 825, 826, 827, 828, 829, 830, 831, 832, 833, 834, 835, 836, 837, 838, 839, 840, 841, 842, 843, 844, 845, 846, 847, 848, 849, 850, 851, 852, 853, 854, 855, 856, 857, 858] (by decide +kernel) (by decide +kernel)
set_option maxRecDepth 20000 in
theorem gL_law_X8_fill : GoodIn wsL_law (wsV RL 24 RX8 yX8_fill wsX8_fill) := goodIn_app (goodIn_of _ (by decide +kernel)) ggL_law_X8_fill
set_option maxRecDepth 20000 in
theorem ggL_law_X7_again : GoodIn wsL_law wsX7_again := goodIn_r _ [140, 17, 117, 118, 119, 120, 2, 121, 122, 123, 100, 101, 15, 102, 44, 98, 141, 142, 143, 144, 99, 810, 811, 812, 813, 814, 815, 816, 817, 818, 819, 859, 860] (by decide +kernel) (by decide +kernel)
set_option maxRecDepth 20000 in
theorem gL_law_X7_again : GoodIn wsL_law (wsV RL 25 RX7 yX7_again wsX7_again) := goodIn_app (goodIn_of _ (by decide +kernel)) ggL_law_X7_again
set_option maxRecDepth 20000 in
theorem ggL_law_X8_again : GoodIn wsL_law wsX8_again := goodIn_r _ [148, 111, 112, 74, 132, 133, 134, 5, 135, 136, 73, 820, 821, 822, 823, 824, 825, 826, 827, 828, 829, 830, 831, 832, 833, 834, 835, 836, 837, 838, 839, 840, 841, 842, 843, 844, 845, 846, 847, 848, 849, 850, 851, 852, 853, 854, 855, 856, 857, 858] (by decide +kernel) (by decide +kernel)
set_option maxRecDepth 20000 in
theorem gL_law_X8_again : GoodIn wsL_law (wsV RL 28 RX8 yX8_again wsX8_again) := goodIn_app (goodIn_of _ (by decide +kernel)) ggL_law_X8_again
set_option maxRecDepth 20000 in
theorem ggL_law_X7_mix : GoodIn wsL_law wsX7_mix := goodIn_r _ [152, 153, 17, 117, 118, 119, 120, 2, 121, 122, 123, 100, 101, 15, 102, 44, 98, 154, 104, 105, 106, 810, 811, 812, 813, 814, 815, 816, 817, 818, 819, 859, 860] (by decide +kernel) (by decide +kernel)
set_option maxRecDepth 20000 in
theorem gL_law_X7_mix : GoodIn wsL_law (wsV RL 29 RX7 yX7_mix wsX7_mix) := goodIn_app (goodIn_of _ (by decide +kernel)) ggL_law_X7_mix
set_option maxRecDepth 20000 in
theorem ggL_law_X8_mix : GoodIn wsL_law wsX8_mix := goodIn_r _ [158, 111, 159, 74, 112, 132, 133, 134, 5, 135, 136, 73, 820, 821, 822, 823, 824, 825, 826, 827, 828, 829, 830, 831, 832, 833, 834, 835, 836, 837, 838, 839, 840, 841, 842, 843, 844, 845, 846, 847, 848, 849, 850, 851, 852, 853, 854, 855, 856, 857, 858] (by decide +kernel) (by decide +kernel)
set_option maxRecDepth 20000 in
theorem gL_law_X8_mix : GoodIn wsL_law (wsV RL 32 RX8 yX8_mix wsX8_mix) := goodIn_app (goodIn_of _ (by decide +kernel)) ggL_law_X8_mix
set_option maxRecDepth 20000 in
theorem ggL_law_X7_change : GoodIn wsL_law wsX7_change := goodIn_r _ [163, 17, 164, 165, 166, 15, 167, 44, 168, 169, 170, 171, 98, 810, 811, 812, 813, 814, 815, 816, 817, 818, 819, 859, 860] (by decide +kernel) (by decide +kernel)
set_option maxRecDepth 20000 in
theorem gL_law_X7_change : GoodIn wsL_law (wsV RL 33 RX7 yX7_change wsX7_change) := goodIn_app (goodIn_of _ (by decide +kernel)) ggL_law_X7_change
set_option maxRecDepth 20000 in
theorem ggL_law_X8_change : GoodIn wsL_law wsX8_change := goodIn_r _ [175, 111, 112, 74, 820, 821, 822, 823, 824, 825, 826, 827, 828, 829, 830, 831, 832, 833, 834, 835, 836, 837, 838, 839, 840, 841, 842, 843, 844, 845, 846, 847, 848, 849, 850, 851, 852, 853, 854, 855, 856, 857, 858] (by decide +kernel) (by decide +kernel)
set_option maxRecDepth 20000 in
theorem gL_law_X8_change : GoodIn wsL_law (wsV RL 36 RX8 yX8_change wsX8_change) := goodIn_app (goodIn_of _ (by decide +kernel)) ggL_law_X8_change
set_option maxRecDepth 20000 in
theorem ggL_law_X7_keep : GoodIn wsL_law wsX7_keep := goodIn_r _ [179, 17, 180, 181, 182, 15, 183, 98, 810, 811, 812, 813, 814, 815, 816, 817, 818, 819, 859, 860] (by decide +kernel) (by decide +kernel)
set_option maxRecDepth 20000 in
theorem gL_law_X7_keep : GoodIn wsL_law (wsV RL 37 RX7 yX7_keep wsX7_keep) := goodIn_app (goodIn_of _ (by decide +kernel)) ggL_law_X7_keep
set_option maxRecDepth 20000 in
theorem ggL_law_X8_keep : GoodIn wsL_law wsX8_keep := goodIn_r _ [187, 111, 112, 820, 821, 822, 823, 824, 825, 826, 827, 828, 829, 830, 831, 832, 833, 834, 835, 836, 837, 838, 839, 840, 841, 842, 843, 844, 845, 846, 847, 848, 849, 850, 851, 852, 853, 854, 855, 856, 857, 858] (by decide +kernel) (by decide +kernel)
set_option maxRecDepth 20000 in
theorem gL_law_X8_keep : GoodIn wsL_law (wsV RL 41 RX8 yX8_keep wsX8_keep) := goodIn_app (goodIn_of _ (by decide +kernel)) ggL_law_X8_keep
set_option maxRecDepth 20000 in
theorem ggL_law_X7_option : GoodIn wsL_law wsX7_option := goodIn_r _ [191, 25, 192, 193, 194, 24, 195, 50, 196, 197, 810, 811, 812, 813, 814, 815, 816, 817, 818, 819, 861] (by decide +kernel) (by decide +kernel)
set_option maxRecDepth 20000 in
theorem gL_law_X7_option : GoodIn wsL_law (wsV RL 42 RX7 yX7_option wsX7_option) := goodIn_app (goodIn_of _ (by decide +kernel)) ggL_law_X7_option
set_option maxRecDepth 20000 in
theorem ggL_law_X8_option : GoodIn wsL_law wsX8_option := goodIn_r _ [201, 111, 89, 78, 820, 821, 822, 823, 824, 825, 826, 827, 828, 829, 830, 831, 832, 833, 834, 835, 836, 837, 838, 839, 840, 841, 842, 843, 844, 845, 846, 847, 848, 849, 850, 851, 852, 853, 854, 855, 856, 857, 858] (by decide +kernel) (by decide +kernel)
set_option maxRecDepth 20000 in
theorem gL_law_X8_option : GoodIn wsL_law (wsV RL 45 RX8 yX8_option wsX8_option) := goodIn_app (goodIn_of _ (by decide +kernel)) ggL_law_X8_option
set_option maxRecDepth 20000 in
theorem gL_law_X7_pack : GoodIn wsL_law (wsV RL 46 RX7 yX7_pack wsX7_pack) := goodIn_app (goodIn_of _ (by decide +kernel)) ggL_law_X7_pack
set_option maxRecDepth 20000 in
theorem gL_law_X8_pack : GoodIn wsL_law (wsV RL 50 RX8 yX8_pack wsX8_pack) := goodIn_app (goodIn_of _ (by decide +kernel)) ggL_law_X8_pack
set_option maxRecDepth 20000 in
theorem ggL_law_X7_skip : GoodIn wsL_law wsX7_skip := goodIn_r _ [441, 19, 442, 117, 123, 100, 101, 15, 102, 44, 98, 443, 299, 300, 301, 103, 104, 105, 106, 124, 125, 126, 127, 810, 811, 812, 813, 814, 815, 816, 817, 818, 819, 859, 860] (by decide +kernel) (by decide +kernel)
set_option maxRecDepth 20000 in
theorem gL_law_X7_skip : GoodIn wsL_law (wsV RL 51 RX7 yX7_skip wsX7_skip) := goodIn_app (goodIn_of _ (by decide +kernel)) ggL_law_X7_skip
set_option maxRecDepth 20000 in
theorem ggL_law_X8_skip : GoodIn wsL_law wsX8_skip := goodIn_r _ [447, 111, 372, 75, 373, 448, 388, 389, 390, 5, 391, 374, 76, 384, 385, 386, 387, 820, 821, 822, 823, 824, 825, 826, 827, 828, 829, 830, 831, 832, 833, 834, 835, 836, 837, 838, 839, 840, 841, 842, 843, 844, 845, 846, 847, 848, 849, 850, 851, 852, 853, 854, 855, 856, 857, 858] (by decide +kernel) (by decide +kernel)
set_option maxRecDepth 20000 in
theorem gL_law_X8_skip : GoodIn wsL_law (wsV RL 55 RX8 yX8_skip wsX8_skip) := goodIn_app (goodIn_of _ (by decide +kernel)) ggL_law_X8_skip
set_option maxRecDepth 20000 in
theorem ggL_law_X7_give : GoodIn wsL_law wsX7_give := goodIn_r _ [452, 19, 94, 95, 96, 15, 97, 98, 99, 100, 101, 102, 44, 103, 104, 105, 106, 810, 811, 812, 813, 814, 815, 816, 817, 818, 819, 859, 860] (by decide +kernel) (by decide +kernel)
set_option maxRecDepth 20000 in
theorem gL_law_X7_give : GoodIn wsL_law (wsV RL 56 RX7 yX7_give wsX7_give) := goodIn_app (goodIn_of _ (by decide +kernel)) ggL_law_X7_give
set_option maxRecDepth 20000 in
theorem ggL_law_X8_give : GoodIn wsL_law wsX8_give := goodIn_r _ [456, 111, 372, 75, 76, 820, 821, 822, 823, 824, 825, 826, 827, 828, 829, 830, 831, 832, 833, 834, 835, 836, 837, 838, 839, 840, 841, 842, 843, 844, 845, 846, 847, 848, 849, 850, 851, 852, 853, 854, 855, 856, 857, 858] (by decide +kernel) (by decide +kernel)
set_option maxRecDepth 20000 in
theorem gL_law_X8_give : GoodIn wsL_law (wsV RL 59 RX8 yX8_give wsX8_give) := goodIn_app (goodIn_of _ (by decide +kernel)) ggL_law_X8_give
set_option maxRecDepth 20000 in
theorem ggL_law_X7_alter : GoodIn wsL_law wsX7_alter := goodIn_r _ [460, 19, 164, 165, 166, 15, 167, 44, 168, 169, 170, 171, 98, 810, 811, 812, 813, 814, 815, 816, 817, 818, 819, 859, 860] (by decide +kernel) (by decide +kernel)
set_option maxRecDepth 20000 in
theorem gL_law_X7_alter : GoodIn wsL_law (wsV RL 60 RX7 yX7_alter wsX7_alter) := goodIn_app (goodIn_of _ (by decide +kernel)) ggL_law_X7_alter
set_option maxRecDepth 20000 in
theorem ggL_law_X8_alter : GoodIn wsL_law wsX8_alter := goodIn_r _ [464, 111, 372, 76, 820, 821, 822, 823, 824, 825, 826, 827, 828, 829, 830, 831, 832, 833, 834, 835, 836, 837, 838, 839, 840, 841, 842, 843, 844, 845, 846, 847, 848, 849, 850, 851, 852, 853, 854, 855, 856, 857, 858] (by decide +kernel) (by decide +kernel)
set_option maxRecDepth 20000 in
theorem gL_law_X8_alter : GoodIn wsL_law (wsV RL 63 RX8 yX8_alter wsX8_alter) := goodIn_app (goodIn_of _ (by decide +kernel)) ggL_law_X8_alter
set_option maxRecDepth 20000 in
theorem ggL_law_X7_cut : GoodIn wsL_law wsX7_cut := goodIn_r _ [468, 19, 180, 181, 182, 15, 183, 98, 810, 811, 812, 813, 814, 815, 816, 817, 818, 819, 859, 860] (by decide +kernel) (by decide +kernel)
set_option maxRecDepth 20000 in
theorem gL_law_X7_cut : GoodIn wsL_law (wsV RL 64 RX7 yX7_cut wsX7_cut) := goodIn_app (goodIn_of _ (by decide +kernel)) ggL_law_X7_cut
set_option maxRecDepth 20000 in
theorem ggL_law_X8_cut : GoodIn wsL_law wsX8_cut := goodIn_r _ [472, 111, 372, 820, 821, 822, 823, 824, 825, 826, 827, 828, 829, 830, 831, 832, 833, 834, 835, 836, 837, 838, 839, 840, 841, 842, 843, 844, 845, 846, 847, 848, 849, 850, 851, 852, 853, 854, 855, 856, 857, 858] (by decide +kernel) (by decide +kernel)
set_option maxRecDepth 20000 in
theorem gL_law_X8_cut : GoodIn wsL_law (wsV RL 67 RX8 yX8_cut wsX8_cut) := goodIn_app (goodIn_of _ (by decide +kernel)) ggL_law_X8_cut
set_option maxRecDepth 20000 in
theorem gL_law_X7_read : GoodIn wsL_law (wsV RL 68 RX7 yX7_read wsX7_read) := goodIn_app (goodIn_of _ (by decide +kernel)) ggL_law_X7_read
set_option maxRecDepth 20000 in
theorem gL_law_X8_read : GoodIn wsL_law (wsV RL 71 RX8 yX8_read wsX8_read) := goodIn_app (goodIn_of _ (by decide +kernel)) ggL_law_X8_read
set_option maxRecDepth 20000 in
theorem ggL_law_X7_place : GoodIn wsL_law wsX7_place := goodIn_r _ [731, 34, 810, 811, 812, 813, 814, 815, 816, 817, 818, 819] (by decide +kernel) (by decide +kernel)
set_option maxRecDepth 20000 in
theorem gL_law_X7_place : GoodIn wsL_law (wsV RL 72 RX7 yX7_place wsX7_place) := goodIn_app (goodIn_of _ (by decide +kernel)) ggL_law_X7_place
set_option maxRecDepth 20000 in
theorem ggL_law_X8_place : GoodIn wsL_law wsX8_place := goodIn_r _ [735, 111, 88, 820, 821, 822, 823, 824, 825, 826, 827, 828, 829, 830, 831, 832, 833, 834, 835, 836, 837, 838, 839, 840, 841, 842, 843, 844, 845, 846, 847, 848, 849, 850, 851, 852, 853, 854, 855, 856, 857, 858] (by decide +kernel) (by decide +kernel)
set_option maxRecDepth 20000 in
theorem gL_law_X8_place : GoodIn wsL_law (wsV RL 75 RX8 yX8_place wsX8_place) := goodIn_app (goodIn_of _ (by decide +kernel)) ggL_law_X8_place
set_option maxRecDepth 20000 in
theorem ggL_law_X7_count : GoodIn wsL_law wsX7_count := goodIn_r _ [739, 17, 117, 19, 20, 29, 740, 33, 741, 742, 743, 486, 488, 810, 811, 812, 813, 814, 815, 816, 817, 818, 819, 859, 860, 862, 863, 864, 865, 866, 867, 868, 869, 870, 871, 872, 873, 874] (by decide +kernel) (by decide +kernel)
set_option maxRecDepth 20000 in
theorem gL_law_X7_count : GoodIn wsL_law (wsV RL 76 RX7 yX7_count wsX7_count) := goodIn_app (goodIn_of _ (by decide +kernel)) ggL_law_X7_count
set_option maxRecDepth 20000 in
theorem ggL_law_X8_count : GoodIn wsL_law wsX8_count := goodIn_r _ [747, 111, 112, 372, 644, 368, 369, 370, 371, 645, 646, 820, 821, 822, 823, 824, 825, 826, 827, 828, 829, 830, 831, 832, 833, 834, 835, 836, 837, 838, 839, 840, 841, 842, 843, 844, 845, 846, 847, 848, 849, 850, 851, 852, 853, 854, 855, 856, 857, 858] (by decide +kernel) (by decide +kernel)
set_option maxRecDepth 20000 in
theorem gL_law_X8_count : GoodIn wsL_law (wsV RL 79 RX8 yX8_count wsX8_count) := goodIn_app (goodIn_of _ (by decide +kernel)) ggL_law_X8_count
set_option maxRecDepth 20000 in
theorem ggL_law_X7_octet : GoodIn wsL_law wsX7_octet := goodIn_r _ [751, 752, 753, 754, 2, 755, 17, 19, 20, 756, 169, 170, 15, 171, 98, 44, 810, 811, 812, 813, 814, 815, 816, 817, 818, 819, 859, 860] (by decide +kernel) (by decide +kernel)
set_option maxRecDepth 20000 in
theorem gL_law_X7_octet : GoodIn wsL_law (wsV RL 80 RX7 yX7_octet wsX7_octet) := goodIn_app (goodIn_of _ (by decide +kernel)) ggL_law_X7_octet
set_option maxRecDepth 20000 in
theorem ggL_law_X8_octet : GoodIn wsL_law wsX8_octet := goodIn_r _ [760, 111, 761, 762, 763, 5, 764, 112, 372, 644, 765, 766, 767, 768, 74, 76, 77, 820, 821, 822, 823, 824, 825, 826, 827, 828, 829, 830, 831, 832, 833, 834, 835, 836, 837, 838, 839, 840, 841, 842, 843, 844, 845, 846, 847, 848, 849, 850, 851, 852, 853, 854, 855, 856, 857, 858] (by decide +kernel) (by decide +kernel)
set_option maxRecDepth 20000 in
theorem gL_law_X8_octet : GoodIn wsL_law (wsV RL 83 RX8 yX8_octet wsX8_octet) := goodIn_app (goodIn_of _ (by decide +kernel)) ggL_law_X8_octet
set_option maxRecDepth 20000 in
theorem ggL_law_X7_sequence : GoodIn wsL_law wsX7_sequence := goodIn_r _ [772, 29, 773, 774, 775, 28, 776, 777, 778, 779, 780, 59, 55, 274, 275, 276, 277, 237, 56, 781, 333, 334, 335, 270, 271, 272, 273, 57, 281, 282, 283, 284, 58, 285, 286, 287, 288, 810, 811, 812, 813, 814, 815, 816, 817, 818, 819, 862, 863, 864, 865, 866, 867] (by decide +kernel) (by decide +kernel)
set_option maxRecDepth 20000 in
theorem gL_law_X7_sequence : GoodIn wsL_law (wsV RL 84 RX7 yX7_sequence wsX7_sequence) := goodIn_app (goodIn_of _ (by decide +kernel)) ggL_law_X7_sequence
set_option maxRecDepth 20000 in
theorem ggL_law_X8_sequence : GoodIn wsL_law wsX8_sequence := goodIn_r _ [785, 111, 368, 80, 81, 82, 83, 84, 820, 821, 822, 823, 824, 825, 826, 827, 828, 829, 830, 831, 832, 833, 834, 835, 836, 837, 838, 839, 840, 841, 842, 843, 844, 845, 846, 847, 848, 849, 850, 851, 852, 853, 854, 855, 856, 857, 858] (by decide +kernel) (by decide +kernel)
set_option maxRecDepth 20000 in
theorem gL_law_X8_sequence : GoodIn wsL_law (wsV RL 87 RX8 yX8_sequence wsX8_sequence) := goodIn_app (goodIn_of _ (by decide +kernel)) ggL_law_X8_sequence
set_option maxRecDepth 20000 in
theorem ggL_law_X7_hash : GoodIn wsL_law wsX7_hash := goodIn_r _ [789, 790, 791, 752, 753, 754, 2, 755, 17, 19, 20, 792, 317, 318, 15, 319, 98, 793, 308, 309, 310, 311, 312, 313, 44, 314, 315, 316, 320, 321, 322, 323, 324, 254, 255, 256, 325, 326, 327, 810, 811, 812, 813, 814, 815, 816, 817, 818, 819, 859, 860] (by decide +kernel) (by decide +kernel)
set_option maxRecDepth 20000 in
theorem gL_law_X7_hash : GoodIn wsL_law (wsV RL 88 RX7 yX7_hash wsX7_hash) := goodIn_app (goodIn_of _ (by decide +kernel)) ggL_law_X7_hash
set_option maxRecDepth 20000 in
theorem ggL_law_X8_hash : GoodIn wsL_law wsX8_hash := goodIn_r _ [797, 111, 798, 799, 761, 762, 763, 5, 764, 112, 372, 644, 765, 766, 767, 768, 74, 76, 77, 392, 393, 394, 395, 396, 397, 398, 399, 400, 401, 402, 403, 404, 405, 406, 407, 408, 820, 821, 822, 823, 824, 825, 826, 827, 828, 829, 830, 831, 832, 833, 834, 835, 836, 837, 838, 839, 840, 841, 842, 843, 844, 845, 846, 847, 848, 849, 850, 851, 852, 853, 854, 855, 856, 857, 858] (by decide +kernel) (by decide +kernel)
set_option maxRecDepth 20000 in
theorem gL_law_X8_hash : GoodIn wsL_law (wsV RL 92 RX8 yX8_hash wsX8_hash) := goodIn_app (goodIn_of _ (by decide +kernel)) ggL_law_X8_hash
set_option maxRecDepth 20000 in
theorem ggL_law_X7_differs : GoodIn wsL_law wsX7_differs := goodIn_r _ [803, 17, 117, 20, 804, 226, 41, 227, 805, 810, 811, 812, 813, 814, 815, 816, 817, 818, 819, 859, 860] (by decide +kernel) (by decide +kernel)
set_option maxRecDepth 20000 in
theorem gL_law_X7_differs : GoodIn wsL_law (wsV RL 93 RX7 yX7_differs wsX7_differs) := goodIn_app (goodIn_of _ (by decide +kernel)) ggL_law_X7_differs
set_option maxRecDepth 20000 in
theorem ggL_law_X8_differs : GoodIn wsL_law wsX8_differs := goodIn_r _ [809, 111, 112, 644, 74, 77, 820, 821, 822, 823, 824, 825, 826, 827, 828, 829, 830, 831, 832, 833, 834, 835, 836, 837, 838, 839, 840, 841, 842, 843, 844, 845, 846, 847, 848, 849, 850, 851, 852, 853, 854, 855, 856, 857, 858] (by decide +kernel) (by decide +kernel)
set_option maxRecDepth 20000 in
theorem gL_law_X8_differs : GoodIn wsL_law (wsV RL 96 RX8 yX8_differs wsX8_differs) := goodIn_app (goodIn_of _ (by decide +kernel)) ggL_law_X8_differs
