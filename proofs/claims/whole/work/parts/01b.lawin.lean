set_option maxRecDepth 20000 in
theorem il_r1 : GoodIn lw_tbl wsL_law_r1 := goodIn_r _ [40, 41, 27, 501, 502, 31, 42, 43, 44, 45, 46, 47, 48, 49, 28, 124, 64, 65, 29, 125, 126, 127, 113, 114] (by decide +kernel) (by decide +kernel)
set_option maxRecDepth 20000 in
theorem il_r2 : GoodIn lw_tbl wsL_law_r2 := goodIn_r _ [30, 128, 129, 51, 52, 53, 63, 54, 56, 67, 68, 69, 70, 72, 74, 112, 76, 78, 79, 80, 81, 83, 85, 87] (by decide +kernel) (by decide +kernel)
set_option maxRecDepth 20000 in
theorem il_r3 : GoodIn lw_tbl wsL_law_r3 := goodIn_r _ [116, 117, 118, 119, 503, 504, 505, 506, 507, 513, 516, 517, 519, 524, 525, 520, 143, 144, 145, 146, 57, 147, 148, 149] (by decide +kernel) (by decide +kernel)
set_option maxRecDepth 20000 in
theorem il_r4 : GoodIn lw_tbl wsL_law_r4 := goodIn_r _ [150, 151, 152, 153, 154, 155, 568, 569, 570, 571, 572, 508, 573, 574, 575, 156, 157, 158, 159, 576, 577, 578, 579, 160] (by decide +kernel) (by decide +kernel)
set_option maxRecDepth 20000 in
theorem il_r5 : GoodIn lw_tbl wsL_law_r5 := goodIn_r _ [161, 162, 163, 164, 165, 166, 167, 168, 170, 0, 171, 173, 174, 175, 32, 176, 177, 178, 179, 180, 777, 181, 182, 183] (by decide +kernel) (by decide +kernel)
set_option maxRecDepth 20000 in
theorem il_r6 : GoodIn lw_tbl wsL_law_r6 := goodIn_r _ [184, 185, 776, 187, 188, 189, 190, 191, 192, 193, 194, 195, 196, 33, 197, 201, 202, 34, 203, 204, 205, 206, 198, 199] (by decide +kernel) (by decide +kernel)
set_option maxRecDepth 20000 in
theorem il_r7 : GoodIn lw_tbl wsL_law_r7 := goodIn_r _ [200, 207, 208, 209, 210, 211, 35, 212, 213, 214, 215, 216, 217, 218, 219, 220, 221, 222, 223, 224, 225, 226, 227, 228] (by decide +kernel) (by decide +kernel)
set_option maxRecDepth 20000 in
theorem il_r8 : GoodIn lw_tbl wsL_law_r8 := goodIn_r _ [230, 231, 36, 232, 233, 234, 235, 236, 237, 238, 239, 241, 243, 245, 246, 247, 248, 249, 37, 250, 251, 252, 253, 254] (by decide +kernel) (by decide +kernel)
set_option maxRecDepth 20000 in
theorem il_r9 : GoodIn lw_tbl wsL_law_r9 := goodIn_r _ [255, 256, 257, 258, 580, 581, 582, 583, 584, 586, 4, 587, 588, 589, 590, 594, 595, 591, 592, 593, 260, 261, 262, 263] (by decide +kernel) (by decide +kernel)
set_option maxRecDepth 20000 in
theorem il_r10 : GoodIn lw_tbl wsL_law_r10 := goodIn_r _ [82, 264, 265, 266, 267, 268, 269, 270, 271, 272, 273, 274, 275, 276, 278, 277, 279, 280, 281, 282, 283, 284, 285, 286] (by decide +kernel) (by decide +kernel)
set_option maxRecDepth 20000 in
theorem il_r11 : GoodIn lw_tbl wsL_law_r11 := goodIn_r _ [596, 597, 598, 599, 509, 510, 511, 515, 512, 287, 288, 289, 290, 71, 73, 75, 77, 291, 292, 293, 294, 295, 296, 297] (by decide +kernel) (by decide +kernel)
set_option maxRecDepth 20000 in
theorem il_r12 : GoodIn lw_tbl wsL_law_r12 := goodIn_r _ [298, 299, 300, 38, 301, 302, 303, 304, 305, 306, 308, 1, 309, 310, 311, 312, 313, 314, 315, 316, 317, 321, 318, 319] (by decide +kernel) (by decide +kernel)
set_option maxRecDepth 20000 in
theorem il_r13 : GoodIn lw_tbl wsL_law_r13 := goodIn_r _ [320, 600, 601, 602, 603, 604, 606, 5, 607, 608, 610, 6, 611, 612, 614, 7, 615, 616, 618, 8, 619, 620, 622, 9] (by decide +kernel) (by decide +kernel)
set_option maxRecDepth 20000 in
theorem il_r14 : GoodIn lw_tbl wsL_law_r14 := goodIn_r _ [623, 624, 625, 626, 627, 629, 10, 630, 631, 633, 11, 634, 322, 323, 324, 325, 326, 327, 328, 635, 636, 637, 638, 639] (by decide +kernel) (by decide +kernel)
set_option maxRecDepth 20000 in
theorem il_r15 : GoodIn lw_tbl wsL_law_r15 := goodIn_r _ [329, 330, 331, 332, 333, 335, 2, 336, 337, 338, 339, 340, 640, 641, 642, 643, 644, 645, 646, 647, 341, 342, 343, 344] (by decide +kernel) (by decide +kernel)
set_option maxRecDepth 20000 in
theorem il_r16 : GoodIn lw_tbl wsL_law_r16 := goodIn_r _ [648, 649, 650, 651, 345, 346, 347, 348, 652, 653, 654, 655, 349, 350, 351, 352, 656, 657, 658, 659, 660, 353, 354, 355] (by decide +kernel) (by decide +kernel)
set_option maxRecDepth 20000 in
theorem il_r17 : GoodIn lw_tbl wsL_law_r17 := goodIn_r _ [356, 357, 358, 359, 360, 361, 362, 363, 364, 365, 366, 367, 368, 369, 370, 371, 372, 373, 661, 662, 663, 664, 665, 667] (by decide +kernel) (by decide +kernel)
set_option maxRecDepth 20000 in
theorem il_r18 : GoodIn lw_tbl wsL_law_r18 := goodIn_r _ [12, 668, 669, 671, 13, 672, 514, 374, 375, 376, 377, 378, 379, 380, 381, 673, 674, 675, 676, 677, 679, 14, 680, 382] (by decide +kernel) (by decide +kernel)
set_option maxRecDepth 20000 in
theorem il_r19 : GoodIn lw_tbl wsL_law_r19 := goodIn_r _ [383, 384, 385, 386, 387, 388, 389, 390, 681, 682, 683, 684, 685, 687, 15, 688, 391, 392, 393, 394, 395, 396, 397, 398] (by decide +kernel) (by decide +kernel)
set_option maxRecDepth 20000 in
theorem il_r20 : GoodIn lw_tbl wsL_law_r20 := goodIn_r _ [399, 689, 690, 691, 692, 693, 695, 16, 696, 400, 401, 402, 403, 404, 405, 406, 407, 408, 409, 410, 411, 412, 697, 698] (by decide +kernel) (by decide +kernel)
set_option maxRecDepth 20000 in
theorem il_r21 : GoodIn lw_tbl wsL_law_r21 := goodIn_r _ [699, 700, 701, 703, 17, 704, 705, 707, 18, 708, 413, 414, 415, 416, 84, 417, 418, 419, 420, 421, 422, 423, 424, 425] (by decide +kernel) (by decide +kernel)
set_option maxRecDepth 20000 in
theorem il_r22 : GoodIn lw_tbl wsL_law_r22 := goodIn_r _ [709, 710, 711, 712, 426, 427, 428, 429, 713, 714, 715, 716, 430, 431, 432, 433, 120, 434, 435, 436, 437, 438, 439, 440] (by decide +kernel) (by decide +kernel)
set_option maxRecDepth 20000 in
theorem il_r23 : GoodIn lw_tbl wsL_law_r23 := goodIn_r _ [441, 442, 443, 444, 445, 446, 447, 448, 449, 450, 451, 717, 718, 719, 720, 721, 722, 518, 723, 724, 725, 726, 728, 19] (by decide +kernel) (by decide +kernel)
set_option maxRecDepth 20000 in
theorem il_r24 : GoodIn lw_tbl wsL_law_r24 := goodIn_r _ [729, 730, 731, 732, 733, 452, 453, 454, 455, 86, 734, 735, 736, 737, 521, 522, 523, 456, 457, 458, 459, 738, 739, 740] (by decide +kernel) (by decide +kernel)
set_option maxRecDepth 20000 in
theorem il_r25 : GoodIn lw_tbl wsL_law_r25 := goodIn_r _ [741, 460, 461, 462, 463, 88, 464, 465, 466, 467, 468, 469, 470, 471, 472, 473, 39, 474, 475, 476, 477, 478, 479, 480] (by decide +kernel) (by decide +kernel)
set_option maxRecDepth 20000 in
theorem il_r26 : GoodIn lw_tbl wsL_law_r26 := goodIn_r _ [481, 742, 743, 744, 745, 746, 748, 20, 749, 750, 752, 21, 753, 754, 756, 22, 757, 758, 760, 23, 761, 482, 483, 484] (by decide +kernel) (by decide +kernel)
set_option maxRecDepth 20000 in
theorem il_r27 : GoodIn lw_tbl wsL_law_r27 := goodIn_r _ [485, 486, 55, 487, 489, 3, 490, 491, 492, 493, 494, 495, 496, 497, 498, 499, 500, 762, 763, 764, 765, 766, 526, 767] (by decide +kernel) (by decide +kernel)
set_option maxRecDepth 20000 in
theorem il_r28 : GoodIn lw_tbl wsL_law_r28 := goodIn_r _ [769, 24, 770, 771, 773, 25, 774, 775] (by decide +kernel) (by decide +kernel)
set_option maxRecDepth 20000 in
theorem il_u4 : GoodIn lw_tbl wsX40 := goodIn_r _ [130, 132, 134, 136, 138, 140] (by decide +kernel) (by decide +kernel)
set_option maxRecDepth 20000 in
theorem il_u5 : GoodIn lw_tbl wsX50 := goodIn_r _ [527, 529, 531, 533, 535, 537, 539, 541, 543, 545, 547, 549, 551, 553, 555, 557, 559, 561, 563, 565] (by decide +kernel) (by decide +kernel)
set_option maxRecDepth 20000 in
theorem il_u2 : GoodIn lw_tbl wsX20 := goodIn_r _ [58, 60] (by decide +kernel) (by decide +kernel)
set_option maxRecDepth 20000 in
theorem il_u3 : GoodIn lw_tbl wsX30 := goodIn_r _ [89, 91, 93, 95, 97, 99, 101, 103, 105, 107, 109] (by decide +kernel) (by decide +kernel)
set_option maxRecDepth 20000 in
theorem il_u0 : GoodIn lw_tbl wsX00 := goodIn_r _ [121] (by decide +kernel) (by decide +kernel)
theorem il_law : GoodIn lw_tbl wsL_law := goodIn_app (goodIn_app (goodIn_app (goodIn_app (goodIn_app (goodIn_app (goodIn_app il_r1 (goodIn_app il_r2 (goodIn_app il_r3 (goodIn_app il_r4 (goodIn_app il_r5 (goodIn_app il_r6 (goodIn_app il_r7 (goodIn_app il_r8 (goodIn_app il_r9 (goodIn_app il_r10 (goodIn_app il_r11 (goodIn_app il_r12 (goodIn_app il_r13 (goodIn_app il_r14 (goodIn_app il_r15 (goodIn_app il_r16 (goodIn_app il_r17 (goodIn_app il_r18 (goodIn_app il_r19 (goodIn_app il_r20 (goodIn_app il_r21 (goodIn_app il_r22 (goodIn_app il_r23 (goodIn_app il_r24 (goodIn_app il_r25 (goodIn_app il_r26 (goodIn_app il_r27 il_r28))))))))))))))))))))))))))) il_u4) il_u5) il_u2) il_u3) il_u0) (fun w h => absurd h List.not_mem_nil)
theorem wsL_law_in : ∀ w ∈ wsL_law, w ∈ lw_tbl := fun w h => (il_law w h).1
