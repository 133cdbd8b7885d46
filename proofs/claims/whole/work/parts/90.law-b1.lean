set_option maxRecDepth 20000 in
theorem hv_X7_pack_0 : GoodIn wsL_law (List.take 48 wsX7_pack) := goodIn_r _ [205, 33, 206, 207, 208, 32, 209, 67, 66, 210, 211, 212, 213, 24, 214, 50, 215, 216, 217, 218, 219, 220, 221, 222, 40, 41, 42, 68, 223, 224, 64, 65, 225, 226, 227, 228, 229, 230, 231, 232, 233, 234, 235, 28, 236, 59, 237, 238] (by decide +kernel) (by decide +kernel)
set_option maxRecDepth 20000 in
theorem hv_X7_pack_1 : GoodIn wsL_law (List.take 48 (List.drop 48 wsX7_pack)) := goodIn_r _ [55, 239, 240, 241, 242, 243, 244, 245, 246, 247, 248, 249, 250, 251, 252, 253, 254, 255, 15, 256, 98, 44, 257, 258, 259, 260, 261, 169, 170, 171, 262, 263, 264, 265, 56, 57, 58, 266, 267, 268, 269, 270, 271, 272, 273, 274, 275, 276] (by decide +kernel) (by decide +kernel)
set_option maxRecDepth 20000 in
theorem hv_X7_pack_2 : GoodIn wsL_law (List.take 48 (List.drop 48 (List.drop 48 wsX7_pack))) := goodIn_r _ [277, 278, 279, 280, 281, 282, 283, 284, 285, 286, 287, 288, 289, 290, 291, 292, 100, 101, 102, 293, 294, 295, 296, 297, 298, 299, 300, 301, 103, 104, 105, 106, 302, 303, 304, 305, 306, 307, 308, 309, 310, 311, 312, 313, 314, 315, 316, 317] (by decide +kernel) (by decide +kernel)
set_option maxRecDepth 20000 in
theorem hv_X7_pack_3 : GoodIn wsL_law (List.take 48 (List.drop 48 (List.drop 48 (List.drop 48 wsX7_pack)))) := goodIn_r _ [318, 319, 320, 321, 322, 323, 324, 325, 326, 327, 328, 329, 330, 331, 332, 333, 334, 335, 336, 337, 338, 339, 340, 341, 342, 343, 344, 345, 346, 347, 348, 99, 349, 350, 351, 352, 353, 354, 355, 356, 357, 358, 359, 360, 361, 362, 363, 810] (by decide +kernel) (by decide +kernel)
set_option maxRecDepth 20000 in
theorem hv_X7_pack_4 : GoodIn wsL_law (List.take 48 (List.drop 48 (List.drop 48 (List.drop 48 (List.drop 48 wsX7_pack))))) := goodIn_r _ [811, 812, 813, 814, 815, 816, 817, 818, 819, 868, 869, 870, 871, 872, 873, 874, 859, 860, 861, 862, 863, 864, 865, 866, 867] (by decide +kernel) (by decide +kernel)
set_option maxRecDepth 20000 in
theorem ggL_law_X7_pack : GoodIn wsL_law wsX7_pack := goodIn_td 48 hv_X7_pack_0 (goodIn_td 48 hv_X7_pack_1 (goodIn_td 48 hv_X7_pack_2 (goodIn_td 48 hv_X7_pack_3 (goodIn_td 48 hv_X7_pack_4 (goodIn_nil (by decide +kernel))))))
