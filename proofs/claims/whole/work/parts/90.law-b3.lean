set_option maxRecDepth 20000 in
theorem hv_X8_pack_0 : GoodIn wsL_law (List.take 48 wsX8_pack) := goodIn_r _ [367, 111, 368, 369, 370, 371, 372, 373, 112, 78, 74, 374, 375, 376, 377, 5, 378, 85, 379, 380, 381, 382, 86, 383, 384, 385, 386, 387, 388, 389, 390, 391, 76, 392, 393, 394, 395, 396, 397, 398, 399, 400, 401, 402, 403, 404, 405, 406] (by decide +kernel) (by decide +kernel)
set_option maxRecDepth 20000 in
theorem hv_X8_pack_1 : GoodIn wsL_law (List.take 48 (List.drop 48 wsX8_pack)) := goodIn_r _ [407, 408, 409, 410, 411, 412, 413, 414, 415, 416, 417, 418, 419, 420, 421, 422, 80, 81, 82, 83, 84, 423, 424, 425, 426, 427, 428, 429, 430, 431, 432, 433, 434, 435, 436, 437, 820, 821, 822, 823, 824, 825, 826, 827, 828, 829, 830, 831] (by decide +kernel) (by decide +kernel)
set_option maxRecDepth 20000 in
theorem hv_X8_pack_2 : GoodIn wsL_law (List.take 48 (List.drop 48 (List.drop 48 wsX8_pack))) := goodIn_r _ [832, 833, 834, 835, 836, 837, 838, 839, 840, 841, 842, 843, 844, 845, 846, 847, 848, 849, 850, 851, 852, 853, 854, 855, 856, 857, 858] (by decide +kernel) (by decide +kernel)
set_option maxRecDepth 20000 in
theorem ggL_law_X8_pack : GoodIn wsL_law wsX8_pack := goodIn_td 48 hv_X8_pack_0 (goodIn_td 48 hv_X8_pack_1 (goodIn_td 48 hv_X8_pack_2 (goodIn_nil (by decide +kernel))))
