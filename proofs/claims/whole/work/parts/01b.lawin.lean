set_option maxRecDepth 20000 in
theorem il_r1 : GoodIn lw_tbl wsL_law_r1 := goodIn_r _ [41, 42, 27, 505, 506, 31, 43, 44, 45, 46, 47, 48, 49, 50, 28, 125, 65, 66, 29, 126, 127, 128, 114, 115] (by decide +kernel) (by decide +kernel)
set_option maxRecDepth 20000 in
theorem il_r2 : GoodIn lw_tbl wsL_law_r2 := goodIn_r _ [30, 129, 130, 52, 53, 54, 64, 55, 57, 68, 69, 70, 71, 73, 75, 113, 77, 79, 80, 81, 82, 84, 86, 88] (by decide +kernel) (by decide +kernel)
set_option maxRecDepth 20000 in
theorem il_r3 : GoodIn lw_tbl wsL_law_r3 := goodIn_r _ [117, 118, 119, 120, 507, 508, 509, 510, 511, 517, 520, 521, 523, 528, 529, 524, 144, 145, 146, 147, 58, 148, 149, 150] (by decide +kernel) (by decide +kernel)
set_option maxRecDepth 20000 in
theorem il_r4 : GoodIn lw_tbl wsL_law_r4 := goodIn_r _ [151, 152, 153, 154, 155, 156, 572, 573, 574, 575, 576, 512, 577, 578, 579, 157, 158, 159, 160, 580, 581, 582, 583, 161] (by decide +kernel) (by decide +kernel)
set_option maxRecDepth 20000 in
theorem il_r5 : GoodIn lw_tbl wsL_law_r5 := goodIn_r _ [162, 163, 164, 165, 166, 167, 168, 169, 171, 0, 172, 174, 175, 176, 32, 177, 178, 179, 180, 181, 781, 182, 183, 184] (by decide +kernel) (by decide +kernel)
set_option maxRecDepth 20000 in
theorem il_r6 : GoodIn lw_tbl wsL_law_r6 := goodIn_r _ [185, 186, 780, 188, 189, 190, 191, 192, 193, 194, 195, 196, 197, 33, 198, 202, 203, 34, 204, 205, 206, 207, 199, 200] (by decide +kernel) (by decide +kernel)
set_option maxRecDepth 20000 in
theorem il_r7 : GoodIn lw_tbl wsL_law_r7 := goodIn_r _ [201, 208, 209, 210, 211, 212, 35, 213, 214, 215, 216, 217, 218, 219, 220, 221, 222, 223, 224, 225, 226, 227, 228, 229] (by decide +kernel) (by decide +kernel)
set_option maxRecDepth 20000 in
theorem il_r8 : GoodIn lw_tbl wsL_law_r8 := goodIn_r _ [231, 232, 36, 233, 234, 235, 236, 237, 238, 239, 240, 242, 244, 246, 247, 248, 249, 250, 37, 251, 252, 253, 254, 255] (by decide +kernel) (by decide +kernel)
set_option maxRecDepth 20000 in
theorem il_r9 : GoodIn lw_tbl wsL_law_r9 := goodIn_r _ [256, 257, 258, 259, 584, 585, 586, 587, 588, 590, 4, 591, 592, 593, 594, 598, 599, 595, 596, 597, 261, 262, 263, 264] (by decide +kernel) (by decide +kernel)
set_option maxRecDepth 20000 in
theorem il_r10 : GoodIn lw_tbl wsL_law_r10 := goodIn_r _ [83, 265, 266, 267, 268, 269, 270, 271, 272, 273, 274, 275, 276, 277, 279, 278, 280, 281, 282, 283, 284, 285, 286, 287] (by decide +kernel) (by decide +kernel)
set_option maxRecDepth 20000 in
theorem il_r11 : GoodIn lw_tbl wsL_law_r11 := goodIn_r _ [600, 601, 602, 603, 513, 514, 515, 519, 516, 288, 289, 290, 291, 72, 74, 76, 78, 292, 293, 294, 295, 296, 297, 298] (by decide +kernel) (by decide +kernel)
set_option maxRecDepth 20000 in
theorem il_r12 : GoodIn lw_tbl wsL_law_r12 := goodIn_r _ [299, 300, 301, 38, 302, 303, 304, 305, 306, 307, 309, 1, 310, 311, 312, 313, 314, 315, 316, 317, 318, 322, 319, 320] (by decide +kernel) (by decide +kernel)
set_option maxRecDepth 20000 in
theorem il_r13 : GoodIn lw_tbl wsL_law_r13 := goodIn_r _ [321, 604, 605, 606, 607, 608, 610, 5, 611, 612, 614, 6, 615, 616, 618, 7, 619, 620, 622, 8, 623, 624, 626, 9] (by decide +kernel) (by decide +kernel)
set_option maxRecDepth 20000 in
theorem il_r14 : GoodIn lw_tbl wsL_law_r14 := goodIn_r _ [627, 628, 629, 630, 631, 633, 10, 634, 635, 637, 11, 638, 323, 324, 325, 326, 327, 328, 329, 639, 640, 641, 642, 643] (by decide +kernel) (by decide +kernel)
set_option maxRecDepth 20000 in
theorem il_r15 : GoodIn lw_tbl wsL_law_r15 := goodIn_r _ [330, 331, 332, 333, 334, 336, 2, 337, 338, 339, 340, 341, 644, 645, 646, 647, 648, 649, 650, 651, 342, 343, 344, 345] (by decide +kernel) (by decide +kernel)
set_option maxRecDepth 20000 in
theorem il_r16 : GoodIn lw_tbl wsL_law_r16 := goodIn_r _ [652, 653, 654, 655, 346, 347, 348, 349, 656, 657, 658, 659, 350, 351, 352, 353, 660, 661, 662, 663, 664, 354, 355, 356] (by decide +kernel) (by decide +kernel)
set_option maxRecDepth 20000 in
theorem il_r17 : GoodIn lw_tbl wsL_law_r17 := goodIn_r _ [357, 358, 359, 360, 361, 362, 363, 364, 365, 366, 367, 368, 369, 370, 371, 372, 373, 374, 665, 666, 667, 668, 669, 671] (by decide +kernel) (by decide +kernel)
set_option maxRecDepth 20000 in
theorem il_r18 : GoodIn lw_tbl wsL_law_r18 := goodIn_r _ [12, 672, 673, 675, 13, 676, 518, 375, 376, 377, 378, 379, 380, 381, 382, 677, 678, 679, 680, 681, 683, 14, 684, 383] (by decide +kernel) (by decide +kernel)
set_option maxRecDepth 20000 in
theorem il_r19 : GoodIn lw_tbl wsL_law_r19 := goodIn_r _ [384, 385, 386, 387, 388, 389, 390, 391, 685, 686, 687, 688, 689, 691, 15, 692, 392, 393, 394, 395, 396, 397, 398, 399] (by decide +kernel) (by decide +kernel)
set_option maxRecDepth 20000 in
theorem il_r20 : GoodIn lw_tbl wsL_law_r20 := goodIn_r _ [400, 693, 694, 695, 696, 697, 699, 16, 700, 401, 402, 403, 404, 405, 406, 407, 408, 409, 410, 411, 412, 413, 701, 702] (by decide +kernel) (by decide +kernel)
set_option maxRecDepth 20000 in
theorem il_r21 : GoodIn lw_tbl wsL_law_r21 := goodIn_r _ [703, 704, 705, 707, 17, 708, 709, 711, 18, 712, 414, 415, 416, 417, 85, 418, 419, 420, 421, 422, 423, 424, 425, 426] (by decide +kernel) (by decide +kernel)
set_option maxRecDepth 20000 in
theorem il_r22 : GoodIn lw_tbl wsL_law_r22 := goodIn_r _ [713, 714, 715, 716, 427, 428, 429, 430, 717, 718, 719, 720, 431, 432, 433, 434, 121, 435, 436, 437, 438, 439, 441, 440] (by decide +kernel) (by decide +kernel)
set_option maxRecDepth 20000 in
theorem il_r23 : GoodIn lw_tbl wsL_law_r23 := goodIn_r _ [39, 442, 443, 444, 445, 446, 447, 448, 449, 450, 451, 452, 453, 454, 455, 721, 722, 723, 724, 725, 726, 522, 727, 728] (by decide +kernel) (by decide +kernel)
set_option maxRecDepth 20000 in
theorem il_r24 : GoodIn lw_tbl wsL_law_r24 := goodIn_r _ [729, 730, 732, 19, 733, 734, 735, 736, 737, 456, 457, 458, 459, 87, 738, 739, 740, 741, 525, 526, 527, 460, 461, 462] (by decide +kernel) (by decide +kernel)
set_option maxRecDepth 20000 in
theorem il_r25 : GoodIn lw_tbl wsL_law_r25 := goodIn_r _ [463, 742, 743, 744, 745, 464, 465, 466, 467, 89, 468, 469, 470, 471, 472, 473, 474, 475, 476, 477, 40, 478, 479, 480] (by decide +kernel) (by decide +kernel)
set_option maxRecDepth 20000 in
theorem il_r26 : GoodIn lw_tbl wsL_law_r26 := goodIn_r _ [481, 482, 483, 484, 485, 746, 747, 748, 749, 750, 752, 20, 753, 754, 756, 21, 757, 758, 760, 22, 761, 762, 764, 23] (by decide +kernel) (by decide +kernel)
set_option maxRecDepth 20000 in
theorem il_r27 : GoodIn lw_tbl wsL_law_r27 := goodIn_r _ [765, 486, 487, 488, 489, 490, 56, 491, 493, 3, 494, 495, 496, 497, 498, 499, 500, 501, 502, 503, 504, 766, 767, 768] (by decide +kernel) (by decide +kernel)
set_option maxRecDepth 20000 in
theorem il_r28 : GoodIn lw_tbl wsL_law_r28 := goodIn_r _ [769, 770, 530, 771, 773, 24, 774, 775, 777, 25, 778, 779] (by decide +kernel) (by decide +kernel)
set_option maxRecDepth 20000 in
theorem il_u4 : GoodIn lw_tbl wsX40 := goodIn_r _ [131, 133, 135, 137, 139, 141] (by decide +kernel) (by decide +kernel)
set_option maxRecDepth 20000 in
theorem il_u5 : GoodIn lw_tbl wsX50 := goodIn_r _ [531, 533, 535, 537, 539, 541, 543, 545, 547, 549, 551, 553, 555, 557, 559, 561, 563, 565, 567, 569] (by decide +kernel) (by decide +kernel)
set_option maxRecDepth 20000 in
theorem il_u2 : GoodIn lw_tbl wsX20 := goodIn_r _ [59, 61] (by decide +kernel) (by decide +kernel)
set_option maxRecDepth 20000 in
theorem il_u3 : GoodIn lw_tbl wsX30 := goodIn_r _ [90, 92, 94, 96, 98, 100, 102, 104, 106, 108, 110] (by decide +kernel) (by decide +kernel)
set_option maxRecDepth 20000 in
theorem il_u0 : GoodIn lw_tbl wsX00 := goodIn_r _ [122] (by decide +kernel) (by decide +kernel)
theorem il_law : GoodIn lw_tbl wsL_law := goodIn_app (goodIn_app (goodIn_app (goodIn_app (goodIn_app (goodIn_app (goodIn_app il_r1 (goodIn_app il_r2 (goodIn_app il_r3 (goodIn_app il_r4 (goodIn_app il_r5 (goodIn_app il_r6 (goodIn_app il_r7 (goodIn_app il_r8 (goodIn_app il_r9 (goodIn_app il_r10 (goodIn_app il_r11 (goodIn_app il_r12 (goodIn_app il_r13 (goodIn_app il_r14 (goodIn_app il_r15 (goodIn_app il_r16 (goodIn_app il_r17 (goodIn_app il_r18 (goodIn_app il_r19 (goodIn_app il_r20 (goodIn_app il_r21 (goodIn_app il_r22 (goodIn_app il_r23 (goodIn_app il_r24 (goodIn_app il_r25 (goodIn_app il_r26 (goodIn_app il_r27 il_r28))))))))))))))))))))))))))) il_u4) il_u5) il_u2) il_u3) il_u0) (fun w h => absurd h List.not_mem_nil)
theorem wsL_law_in : ∀ w ∈ wsL_law, w ∈ lw_tbl := fun w h => (il_law w h).1
