set_option maxRecDepth 20000 in
theorem hv_X7_read_0 : GoodIn wsL_law (List.take 48 wsX7_read) := goodIn_r _ [476, 21, 477, 478, 479, 480, 481, 482, 19, 483, 34, 484, 20, 485, 486, 487, 488, 117, 180, 181, 182, 15, 183, 98, 489, 490, 491, 11, 12, 492, 493, 494, 495, 496, 497, 498, 499, 500, 501, 502, 503, 504, 505, 506, 507, 508, 509, 510] (by decide +kernel) (by decide +kernel)
set_option maxRecDepth 20000 in
theorem hv_X7_read_1 : GoodIn wsL_law (List.take 48 (List.drop 48 wsX7_read)) := goodIn_r _ [511, 512, 513, 514, 515, 516, 517, 518, 519, 520, 521, 522, 523, 524, 525, 526, 527, 528, 254, 255, 256, 44, 529, 530, 531, 532, 533, 534, 535, 536, 537, 538, 539, 540, 541, 542, 543, 544, 545, 169, 170, 171, 546, 547, 548, 549, 550, 551] (by decide +kernel) (by decide +kernel)
set_option maxRecDepth 20000 in
theorem hv_X7_read_2 : GoodIn wsL_law (List.take 48 (List.drop 48 (List.drop 48 wsX7_read))) := goodIn_r _ [552, 553, 554, 555, 556, 557, 558, 559, 560, 561, 316, 317, 318, 319, 562, 308, 309, 310, 311, 312, 313, 314, 315, 320, 321, 322, 323, 324, 325, 326, 327, 563, 564, 565, 566, 567, 568, 569, 570, 571, 572, 573, 574, 575, 576, 577, 578, 579] (by decide +kernel) (by decide +kernel)
set_option maxRecDepth 20000 in
theorem hv_X7_read_3 : GoodIn wsL_law (List.take 48 (List.drop 48 (List.drop 48 (List.drop 48 wsX7_read)))) := goodIn_r _ [580, 581, 582, 583, 584, 585, 586, 587, 100, 101, 102, 588, 342, 343, 344, 345, 346, 347, 348, 99, 589, 590, 591, 592, 593, 594, 595, 596, 226, 41, 227, 597, 598, 599, 600, 601, 602, 603, 604, 605, 606, 607, 608, 609, 610, 611, 612, 613] (by decide +kernel) (by decide +kernel)
set_option maxRecDepth 20000 in
theorem hv_X7_read_4 : GoodIn wsL_law (List.take 48 (List.drop 48 (List.drop 48 (List.drop 48 (List.drop 48 wsX7_read))))) := goodIn_r _ [614, 615, 616, 617, 618, 619, 620, 621, 622, 623, 624, 625, 626, 627, 628, 629, 630, 631, 632, 633, 634, 142, 143, 144, 810, 811, 812, 813, 814, 815, 816, 817, 818, 819, 875, 876, 877, 878, 879, 880, 881, 882, 883, 884, 885, 886, 887, 888] (by decide +kernel) (by decide +kernel)
set_option maxRecDepth 20000 in
theorem hv_X7_read_5 : GoodIn wsL_law (List.take 48 (List.drop 48 (List.drop 48 (List.drop 48 (List.drop 48 (List.drop 48 wsX7_read)))))) := goodIn_r _ [859, 860, 889, 890, 891, 892, 893, 894, 895, 896, 897, 898, 899, 900, 901] (by decide +kernel) (by decide +kernel)
set_option maxRecDepth 20000 in
theorem ggL_law_X7_read : GoodIn wsL_law wsX7_read := goodIn_td 48 hv_X7_read_0 (goodIn_td 48 hv_X7_read_1 (goodIn_td 48 hv_X7_read_2 (goodIn_td 48 hv_X7_read_3 (goodIn_td 48 hv_X7_read_4 (goodIn_td 48 hv_X7_read_5 (goodIn_nil (by decide +kernel)))))))
