theorem mem_ps {big ws : List Cond} (ps : List Nat) (hp : ws = ps.filterMap (fun i => big[i]?)) : ∀ w ∈ ws, w ∈ big := by
  intro w hw
  rw [hp] at hw
  obtain ⟨i, -, hi⟩ := List.mem_filterMap.mp hw
  exact List.mem_of_getElem? hi
theorem mem_td {big : List Cond} (k : Nat) {ws : List Cond} (h1 : ∀ w ∈ List.take k ws, w ∈ big) (h2 : ∀ w ∈ List.drop k ws, w ∈ big) : ∀ w ∈ ws, w ∈ big := fun w h => by
  rw [← List.take_append_drop k ws] at h
  exact (List.mem_append.mp h).elim (h1 w) (h2 w)
theorem mem_nil {big ws : List Cond} (h : ws.isEmpty = true) : ∀ w ∈ ws, w ∈ big := fun w hw => by
  rw [List.isEmpty_iff.mp h] at hw; cases hw
theorem goodIn_td {big : List Cond} (k : Nat) {ws : List Cond} (h1 : GoodIn big (List.take k ws)) (h2 : GoodIn big (List.drop k ws)) : GoodIn big ws := fun w h => by
  rw [← List.take_append_drop k ws] at h
  exact (List.mem_append.mp h).elim (h1 w) (h2 w)
theorem goodIn_nil {big ws : List Cond} (h : ws.isEmpty = true) : GoodIn big ws := fun w hw => by
  rw [List.isEmpty_iff.mp h] at hw; cases hw
set_option maxRecDepth 20000 in
theorem wL_0 : ∀ w ∈ (List.take 48 wsL_law), w ∈ lw_tbl := mem_ps [71, 72, 59, 710, 711, 65, 1066, 73, 74, 75, 76, 77, 78, 79, 80, 60, 81, 175, 102, 176, 177, 178, 103, 104, 62, 179, 115, 116, 63, 180, 145, 146, 64, 181, 182, 82, 83, 84, 85, 86, 87, 61, 88, 101, 89, 106, 107, 108] (by decide +kernel)
set_option maxRecDepth 20000 in
theorem wL_1 : ∀ w ∈ (List.take 48 (List.drop 48 wsL_law)), w ∈ lw_tbl := mem_ps [114, 109, 110, 118, 119, 120, 121, 123, 122, 124, 125, 126, 147, 148, 149, 150, 155, 151, 152, 153, 154, 712, 713, 714, 715, 716, 721, 717, 723, 725, 727, 718, 729, 730, 731, 732, 733, 738, 739, 740, 744, 719, 206, 207, 208, 209, 210, 211] (by decide +kernel)
set_option maxRecDepth 20000 in
theorem wL_2 : ∀ w ∈ (List.take 48 (List.drop 48 (List.drop 48 wsL_law))), w ∈ lw_tbl := mem_ps [212, 213, 91, 214, 215, 216, 217, 218, 219, 220, 221, 838, 839, 840, 841, 720, 722, 222, 223, 224, 225, 95, 226, 228, 0, 229, 230, 231, 232, 233, 234, 235, 842, 843, 844, 845, 846, 848, 29, 849, 850, 236, 237, 238, 239, 240, 241, 242] (by decide +kernel)
set_option maxRecDepth 20000 in
theorem wL_3 : ∀ w ∈ (List.take 48 (List.drop 48 (List.drop 48 (List.drop 48 wsL_law)))), w ∈ lw_tbl := mem_ps [243, 851, 852, 853, 854, 244, 245, 246, 247, 248, 249, 855, 856, 857, 858, 859, 250, 251, 252, 253, 254, 255, 256, 257, 258, 259, 260, 261, 860, 861, 862, 863, 262, 263, 264, 265, 266, 267, 268, 269, 864, 865, 866, 867, 270, 271, 272, 273] (by decide +kernel)
set_option maxRecDepth 20000 in
theorem wL_4 : ∀ w ∈ (List.take 48 (List.drop 48 (List.drop 48 (List.drop 48 (List.drop 48 wsL_law))))), w ∈ lw_tbl := mem_ps [274, 275, 276, 277, 278, 280, 868, 869, 870, 871, 282, 283, 284, 285, 286, 287, 288, 289, 94, 290, 291, 292, 293, 294, 295, 296, 297, 299, 1, 300, 305, 156, 158, 313, 314, 315, 128, 301, 302, 303, 304, 306, 307, 308, 309, 127, 130, 310] (by decide +kernel)
set_option maxRecDepth 20000 in
theorem wL_5 : ∀ w ∈ (List.take 48 (List.drop 48 (List.drop 48 (List.drop 48 (List.drop 48 (List.drop 48 wsL_law)))))), w ∈ lw_tbl := mem_ps [311, 66, 312, 316, 317, 318, 319, 320, 322, 2, 323, 328, 329, 324, 325, 326, 327, 330, 332, 3, 333, 334, 335, 336, 337, 338, 339, 340, 341, 342, 343, 344, 345, 346, 347, 348, 349, 350, 351, 352, 353, 354, 355, 356, 357, 358, 359, 360] (by decide +kernel)
set_option maxRecDepth 20000 in
theorem wL_6 : ∀ w ∈ (List.take 48 (List.drop 48 (List.drop 48 (List.drop 48 (List.drop 48 (List.drop 48 (List.drop 48 wsL_law))))))), w ∈ lw_tbl := mem_ps [361, 362, 363, 364, 365, 366, 368, 4, 369, 370, 371, 372, 373, 374, 375, 376, 377, 378, 379, 380, 381, 382, 383, 398, 399, 400, 392, 393, 384, 385, 386, 387, 388, 390, 5, 391, 394, 395, 396, 397, 401, 403, 6, 404, 405, 406, 407, 408] (by decide +kernel)
set_option maxRecDepth 20000 in
theorem wL_7 : ∀ w ∈ (List.take 48 (List.drop 48 (List.drop 48 (List.drop 48 (List.drop 48 (List.drop 48 (List.drop 48 (List.drop 48 wsL_law)))))))), w ∈ lw_tbl := mem_ps [409, 411, 7, 412, 413, 414, 415, 416, 417, 418, 420, 419, 67, 421, 423, 8, 424, 425, 426, 427, 428, 430, 9, 431, 432, 434, 10, 435, 872, 873, 874, 875, 734, 735, 736, 737, 724, 728, 893, 876, 878, 30, 879, 880, 882, 31, 883, 884] (by decide +kernel)
set_option maxRecDepth 20000 in
theorem wL_8 : ∀ w ∈ (List.take 48 (List.drop 48 (List.drop 48 (List.drop 48 (List.drop 48 (List.drop 48 (List.drop 48 (List.drop 48 (List.drop 48 wsL_law))))))))), w ∈ lw_tbl := mem_ps [885, 887, 32, 888, 889, 891, 33, 892, 894, 895, 896, 897, 898, 899, 909, 910, 900, 901, 902, 903, 904, 905, 906, 907, 908, 911, 913, 34, 914, 931, 915, 917, 35, 918, 919, 920, 922, 36, 923, 924, 926, 37, 927, 928, 929, 930, 932, 934] (by decide +kernel)
set_option maxRecDepth 20000 in
theorem wL_9 : ∀ w ∈ (List.take 48 (List.drop 48 (List.drop 48 (List.drop 48 (List.drop 48 (List.drop 48 (List.drop 48 (List.drop 48 (List.drop 48 (List.drop 48 wsL_law)))))))))), w ∈ lw_tbl := mem_ps [38, 935, 936, 938, 39, 939, 436, 437, 438, 439, 440, 441, 940, 941, 942, 943, 944, 442, 443, 444, 445, 945, 946, 947, 948, 446, 447, 448, 449, 949, 950, 951, 952, 450, 451, 452, 453, 953, 954, 955, 956, 454, 455, 456, 457, 458, 459, 68] (by decide +kernel)
set_option maxRecDepth 20000 in
theorem wL_10 : ∀ w ∈ (List.take 48 (List.drop 48 (List.drop 48 (List.drop 48 (List.drop 48 (List.drop 48 (List.drop 48 (List.drop 48 (List.drop 48 (List.drop 48 (List.drop 48 wsL_law))))))))))), w ∈ lw_tbl := mem_ps [473, 474, 69, 467, 465, 536, 183, 538, 184, 461, 462, 463, 466, 475, 476, 477, 478, 525, 526, 527, 479, 480, 70, 528, 481, 482, 483, 484, 485, 486, 487, 564, 565, 566, 567, 92, 530, 529, 568, 569, 571, 11, 572, 573, 574, 575, 576, 464] (by decide +kernel)
set_option maxRecDepth 20000 in
theorem wL_11 : ∀ w ∈ (List.take 48 (List.drop 48 (List.drop 48 (List.drop 48 (List.drop 48 (List.drop 48 (List.drop 48 (List.drop 48 (List.drop 48 (List.drop 48 (List.drop 48 (List.drop 48 wsL_law)))))))))))), w ∈ lw_tbl := mem_ps [577, 578, 580, 12, 581, 582, 607, 583, 585, 13, 586, 531, 587, 589, 14, 590, 532, 591, 592, 594, 15, 595, 533, 596, 598, 16, 599, 600, 534, 601, 602, 603, 604, 605, 606, 608, 610, 17, 611, 535, 612, 614, 18, 615, 616, 618, 19, 619] (by decide +kernel)
set_option maxRecDepth 20000 in
theorem wL_12 : ∀ w ∈ (List.take 48 (List.drop 48 (List.drop 48 (List.drop 48 (List.drop 48 (List.drop 48 (List.drop 48 (List.drop 48 (List.drop 48 (List.drop 48 (List.drop 48 (List.drop 48 (List.drop 48 wsL_law))))))))))))), w ∈ lw_tbl := mem_ps [620, 622, 20, 623, 624, 625, 537, 626, 628, 21, 629, 630, 631, 632, 633, 634, 635, 488, 489, 93, 636, 490, 491, 492, 493, 497, 495, 494, 637, 638, 640, 22, 641, 496, 642, 644, 23, 645, 646, 648, 24, 649, 650, 651, 653, 25, 654, 655] (by decide +kernel)
set_option maxRecDepth 20000 in
theorem wL_13 : ∀ w ∈ (List.take 48 (List.drop 48 (List.drop 48 (List.drop 48 (List.drop 48 (List.drop 48 (List.drop 48 (List.drop 48 (List.drop 48 (List.drop 48 (List.drop 48 (List.drop 48 (List.drop 48 (List.drop 48 wsL_law)))))))))))))), w ∈ lw_tbl := mem_ps [656, 657, 659, 26, 660, 661, 663, 27, 664, 665, 666, 957, 958, 959, 960, 741, 742, 745, 746, 743, 726, 747, 748, 961, 963, 40, 964, 965, 979, 980, 966, 968, 41, 969, 970, 972, 42, 973, 974, 976, 43, 977, 978, 981, 983, 44, 984, 985] (by decide +kernel)
set_option maxRecDepth 20000 in
theorem wL_14 : ∀ w ∈ (List.take 48 (List.drop 48 (List.drop 48 (List.drop 48 (List.drop 48 (List.drop 48 (List.drop 48 (List.drop 48 (List.drop 48 (List.drop 48 (List.drop 48 (List.drop 48 (List.drop 48 (List.drop 48 (List.drop 48 wsL_law))))))))))))))), w ∈ lw_tbl := mem_ps [987, 45, 988, 749, 750, 989, 756, 751, 990, 992, 46, 993, 752, 994, 995, 997, 47, 998, 753, 754, 999, 1001, 48, 1002, 1003, 1005, 49, 1006, 755, 1007, 1009, 50, 1010, 757, 758, 1011, 1013, 51, 1014, 1015, 1017, 52, 1018, 1019, 1020, 1022, 53, 1023] (by decide +kernel)
set_option maxRecDepth 20000 in
theorem wL_15 : ∀ w ∈ (List.take 48 (List.drop 48 (List.drop 48 (List.drop 48 (List.drop 48 (List.drop 48 (List.drop 48 (List.drop 48 (List.drop 48 (List.drop 48 (List.drop 48 (List.drop 48 (List.drop 48 (List.drop 48 (List.drop 48 (List.drop 48 wsL_law)))))))))))))))), w ∈ lw_tbl := mem_ps [1024, 1026, 54, 1027, 1028, 1030, 55, 1031, 667, 668, 669, 670, 1032, 1033, 1034, 1035, 671, 672, 673, 674, 129, 157, 159, 131, 1036, 1037, 1038, 1039, 675, 676, 677, 678, 679, 681, 28, 682, 683, 1040, 1041, 1042, 1043, 1044, 1046, 56, 1047, 1048, 1050, 57] (by decide +kernel)
set_option maxRecDepth 20000 in
theorem wL_16 : ∀ w ∈ (List.take 48 (List.drop 48 (List.drop 48 (List.drop 48 (List.drop 48 (List.drop 48 (List.drop 48 (List.drop 48 (List.drop 48 (List.drop 48 (List.drop 48 (List.drop 48 (List.drop 48 (List.drop 48 (List.drop 48 (List.drop 48 (List.drop 48 wsL_law))))))))))))))))), w ∈ lw_tbl := mem_ps [1051, 684, 685, 686, 687, 688, 689, 690, 691, 692, 693, 694, 695, 696, 1052, 1053, 1054, 1055, 697, 698, 699, 700, 702, 704, 701, 703, 1056, 1057, 1058, 1059, 1060, 1061, 705, 706, 707, 708, 709, 90, 1062, 1063, 1064, 1065, 185, 187, 189, 191, 193, 195] (by decide +kernel)
set_option maxRecDepth 20000 in
theorem wL_17 : ∀ w ∈ (List.take 48 (List.drop 48 (List.drop 48 (List.drop 48 (List.drop 48 (List.drop 48 (List.drop 48 (List.drop 48 (List.drop 48 (List.drop 48 (List.drop 48 (List.drop 48 (List.drop 48 (List.drop 48 (List.drop 48 (List.drop 48 (List.drop 48 (List.drop 48 wsL_law)))))))))))))))))), w ∈ lw_tbl := mem_ps [197, 199, 201, 203, 759, 761, 763, 765, 767, 769, 771, 773, 775, 777, 779, 781, 783, 785, 787, 789, 791, 793, 795, 797, 799, 801, 803, 805, 807, 809, 811, 813, 815, 817, 819, 821, 823, 825, 827, 829, 831, 833, 835, 96, 98, 111, 132, 134] (by decide +kernel)
set_option maxRecDepth 20000 in
theorem wL_18 : ∀ w ∈ (List.take 48 (List.drop 48 (List.drop 48 (List.drop 48 (List.drop 48 (List.drop 48 (List.drop 48 (List.drop 48 (List.drop 48 (List.drop 48 (List.drop 48 (List.drop 48 (List.drop 48 (List.drop 48 (List.drop 48 (List.drop 48 (List.drop 48 (List.drop 48 (List.drop 48 wsL_law))))))))))))))))))), w ∈ lw_tbl := mem_ps [136, 138, 140, 142, 160, 162, 164, 166, 168, 170, 172, 468, 470, 539, 541, 543, 545, 547, 549, 551, 553, 555, 557, 559, 561, 498, 500, 502, 504, 506, 508, 510, 512, 514, 516, 518, 520, 522] (by decide +kernel)
set_option maxRecDepth 20000 in
theorem wsL_law_in : ∀ w ∈ wsL_law, w ∈ lw_tbl := mem_td 48 wL_0 (mem_td 48 wL_1 (mem_td 48 wL_2 (mem_td 48 wL_3 (mem_td 48 wL_4 (mem_td 48 wL_5 (mem_td 48 wL_6 (mem_td 48 wL_7 (mem_td 48 wL_8 (mem_td 48 wL_9 (mem_td 48 wL_10 (mem_td 48 wL_11 (mem_td 48 wL_12 (mem_td 48 wL_13 (mem_td 48 wL_14 (mem_td 48 wL_15 (mem_td 48 wL_16 (mem_td 48 wL_17 (mem_td 48 wL_18 (mem_nil (by decide +kernel))))))))))))))))))))
theorem inlX0 : ∀ w ∈ wsX00, w ∈ wsL_law := fun _ h => List.mem_append_left _ (List.mem_append_right _ h)
theorem inlX1 : ∀ w ∈ wsX10, w ∈ wsL_law := fun _ h => List.mem_append_left _ (List.mem_append_left _ (List.mem_append_left _ (List.mem_append_right _ h)))
theorem inlX2 : ∀ w ∈ wsX20, w ∈ wsL_law := fun _ h => List.mem_append_left _ (List.mem_append_left _ (List.mem_append_right _ h))
theorem inlX3 : ∀ w ∈ wsX30, w ∈ wsL_law := fun _ h => List.mem_append_left _ (List.mem_append_left _ (List.mem_append_left _ (List.mem_append_left _ (List.mem_append_left _ (List.mem_append_left _ (List.mem_append_right _ h))))))
theorem inlX4 : ∀ w ∈ wsX40, w ∈ wsL_law := fun _ h => List.mem_append_left _ (List.mem_append_left _ (List.mem_append_left _ (List.mem_append_left _ (List.mem_append_right _ h))))
theorem inlX5 : ∀ w ∈ wsX50, w ∈ wsL_law := fun _ h => List.mem_append_left _ (List.mem_append_left _ (List.mem_append_left _ (List.mem_append_left _ (List.mem_append_left _ (List.mem_append_left _ (List.mem_append_left _ (List.mem_append_right _ h)))))))
theorem inlX6 : ∀ w ∈ wsX60, w ∈ wsL_law := fun _ h => List.mem_append_left _ (List.mem_append_left _ (List.mem_append_left _ (List.mem_append_left _ (List.mem_append_left _ (List.mem_append_right _ h)))))
theorem inlX7 : ∀ w ∈ wsX70, w ∈ wsL_law := fun _ h => List.mem_append_left _ (List.mem_append_left _ (List.mem_append_left _ (List.mem_append_left _ (List.mem_append_left _ (List.mem_append_left _ (List.mem_append_left _ (List.mem_append_left _ (List.mem_append_left _ (List.mem_append_right _ h)))))))))
theorem inlX8 : ∀ w ∈ wsX80, w ∈ wsL_law := fun _ h => List.mem_append_left _ (List.mem_append_left _ (List.mem_append_left _ (List.mem_append_left _ (List.mem_append_left _ (List.mem_append_left _ (List.mem_append_left _ (List.mem_append_left _ (List.mem_append_right _ h))))))))
