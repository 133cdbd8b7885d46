set_option maxRecDepth 20000 in
theorem hv_X8_read_0 : GoodIn wsL_law (List.take 48 wsX8_read) := goodIn_r _ [638, 111, 639, 640, 641, 642, 88, 372, 643, 77, 87, 644, 645, 646, 647, 648, 649, 5, 650, 651, 652, 653, 383, 654, 655, 656, 657, 658, 659, 660, 661, 662, 663, 664, 665, 76, 666, 667, 668, 669, 670, 671, 672, 673, 674, 675, 676, 677] (by decide +kernel) (by decide +kernel)
set_option maxRecDepth 20000 in
theorem hv_X8_read_1 : GoodIn wsL_law (List.take 48 (List.drop 48 wsX8_read)) := goodIn_r _ [678, 679, 392, 393, 394, 395, 396, 397, 398, 399, 400, 401, 402, 403, 404, 405, 406, 407, 408, 680, 681, 682, 683, 684, 685, 686, 687, 688, 689, 690, 691, 692, 693, 694, 695, 73, 696, 697, 698, 699, 700, 701, 702, 703, 704, 705, 706, 707] (by decide +kernel) (by decide +kernel)
set_option maxRecDepth 20000 in
theorem hv_X8_read_2 : GoodIn wsL_law (List.take 48 (List.drop 48 (List.drop 48 wsX8_read))) := goodIn_r _ [708, 709, 710, 711, 712, 713, 714, 715, 716, 717, 718, 719, 720, 721, 722, 723, 724, 725, 726, 727, 820, 821, 822, 823, 824, 825, 826, 827, 828, 829, 830, 831, 832, 833, 834, 835, 836, 837, 838, 839, 840, 841, 842, 843, 844, 845, 846, 847] (by decide +kernel) (by decide +kernel)
set_option maxRecDepth 20000 in
theorem hv_X8_read_3 : GoodIn wsL_law (List.take 48 (List.drop 48 (List.drop 48 (List.drop 48 wsX8_read)))) := goodIn_r _ [848, 849, 850, 851, 852, 853, 854, 855, 856, 857, 858] (by decide +kernel) (by decide +kernel)
set_option maxRecDepth 20000 in
theorem ggL_law_X8_read : GoodIn wsL_law wsX8_read := goodIn_td 48 hv_X8_read_0 (goodIn_td 48 hv_X8_read_1 (goodIn_td 48 hv_X8_read_2 (goodIn_td 48 hv_X8_read_3 (goodIn_nil (by decide +kernel)))))
