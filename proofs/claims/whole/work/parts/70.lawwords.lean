theorem wl_ap {a b t : List Cond} (h1 : ∀ w ∈ a, w ∈ t) (h2 : ∀ w ∈ b, w ∈ t) : ∀ w ∈ a ++ b, w ∈ t := fun w h => (List.mem_append.mp h).elim (h1 w) (h2 w)
theorem wl_pl {t : List Cond} (ws : List Cond) (ps : List Nat) (hp : ws = ps.filterMap (fun i => t[i]?)) : ∀ w ∈ ws, w ∈ t := by
  intro w hw
  rw [hp] at hw
  obtain ⟨i, -, hi⟩ := List.mem_filterMap.mp hw
  exact List.mem_of_getElem? hi
set_option maxRecDepth 20000 in
theorem wl_wsL_law_r1 : ∀ w ∈ wsL_law_r1, w ∈ lw_tbl := wl_pl wsL_law_r1 [55, 56, 47, 524, 525, 51, 57, 58, 59, 60, 61, 62, 63, 140, 65, 66, 48, 141, 142, 99, 100, 49, 143, 119] (by decide +kernel)
set_option maxRecDepth 20000 in
theorem wl_wsL_law_r2 : ∀ w ∈ wsL_law_r2, w ∈ lw_tbl := wl_pl wsL_law_r2 [50, 68, 69, 70, 98, 71, 74, 76, 102, 103, 104, 105, 106, 107, 121, 122, 123, 124, 526, 527, 528, 529, 532, 533] (by decide +kernel)
set_option maxRecDepth 20000 in
theorem wl_wsL_law_r3 : ∀ w ∈ wsL_law_r3, w ∈ lw_tbl := wl_pl wsL_law_r3 [534, 539, 540, 541, 545, 546, 547, 551, 552, 553, 162, 163, 164, 165, 146, 109, 144, 80, 166, 168, 0, 169, 170, 171] (by decide +kernel)
set_option maxRecDepth 20000 in
theorem wl_wsL_law_r4 : ∀ w ∈ wsL_law_r4, w ∈ lw_tbl := wl_pl wsL_law_r4 [172, 173, 174, 175, 176, 129, 126, 177, 178, 179, 180, 128, 181, 183, 1, 184, 185, 186, 187, 188, 189, 190, 191, 192] (by decide +kernel)
set_option maxRecDepth 20000 in
theorem wl_wsL_law_r5 : ∀ w ∈ wsL_law_r5, w ∈ lw_tbl := wl_pl wsL_law_r5 [193, 194, 195, 196, 197, 198, 199, 200, 201, 202, 203, 204, 205, 206, 52, 207, 208, 209, 210, 79, 83, 81, 211, 212] (by decide +kernel)
set_option maxRecDepth 20000 in
theorem wl_wsL_law_r6 : ∀ w ∈ wsL_law_r6, w ∈ lw_tbl := wl_pl wsL_law_r6 [213, 214, 215, 216, 217, 603, 604, 605, 606, 530, 542, 535, 607, 608, 609, 610, 611, 612, 613, 614, 615, 616, 618, 19] (by decide +kernel)
set_option maxRecDepth 20000 in
theorem wl_wsL_law_r7 : ∀ w ∈ wsL_law_r7, w ∈ lw_tbl := wl_pl wsL_law_r7 [619, 620, 622, 20, 623, 624, 626, 21, 627, 544, 543, 628, 630, 22, 631, 632, 634, 23, 635, 636, 638, 24, 639, 640] (by decide +kernel)
set_option maxRecDepth 20000 in
theorem wl_wsL_law_r8 : ∀ w ∈ wsL_law_r8, w ∈ lw_tbl := wl_pl wsL_law_r8 [642, 25, 643, 644, 646, 26, 647, 536, 537, 538, 550, 218, 219, 220, 221, 73, 75, 78, 222, 223, 224, 225, 226, 227] (by decide +kernel)
set_option maxRecDepth 20000 in
theorem wl_wsL_law_r9 : ∀ w ∈ wsL_law_r9, w ∈ lw_tbl := wl_pl wsL_law_r9 [228, 229, 231, 232, 233, 234, 235, 236, 238, 239, 240, 648, 649, 650, 651, 652, 654, 27, 655, 656, 658, 28, 659, 241] (by decide +kernel)
set_option maxRecDepth 20000 in
theorem wl_wsL_law_r10 : ∀ w ∈ wsL_law_r10, w ∈ lw_tbl := wl_pl wsL_law_r10 [242, 243, 244, 660, 661, 662, 663, 245, 246, 247, 248, 82, 249, 250, 251, 252, 253, 254, 255, 256, 257, 258, 664, 665] (by decide +kernel)
set_option maxRecDepth 20000 in
theorem wl_wsL_law_r11 : ∀ w ∈ wsL_law_r11, w ∈ lw_tbl := wl_pl wsL_law_r11 [666, 667, 668, 670, 29, 671, 672, 673, 674, 675, 677, 30, 678, 259, 260, 261, 262, 263, 265, 2, 266, 267, 268, 269] (by decide +kernel)
set_option maxRecDepth 20000 in
theorem wl_wsL_law_r12 : ∀ w ∈ wsL_law_r12, w ∈ lw_tbl := wl_pl wsL_law_r12 [270, 271, 273, 3, 274, 275, 276, 277, 278, 279, 280, 281, 53, 282, 283, 284, 285, 286, 288, 4, 289, 290, 292, 5] (by decide +kernel)
set_option maxRecDepth 20000 in
theorem wl_wsL_law_r13 : ∀ w ∈ wsL_law_r13, w ∈ lw_tbl := wl_pl wsL_law_r13 [293, 294, 296, 6, 297, 298, 300, 7, 301, 679, 680, 681, 682, 683, 684, 685, 686, 688, 31, 689, 690, 692, 32, 693] (by decide +kernel)
set_option maxRecDepth 20000 in
theorem wl_wsL_law_r14 : ∀ w ∈ wsL_law_r14, w ∈ lw_tbl := wl_pl wsL_law_r14 [302, 303, 304, 305, 694, 695, 696, 697, 698, 700, 33, 701, 306, 307, 308, 309, 702, 703, 704, 705, 310, 311, 312, 313] (by decide +kernel)
set_option maxRecDepth 20000 in
theorem wl_wsL_law_r15 : ∀ w ∈ wsL_law_r15, w ∈ lw_tbl := wl_pl wsL_law_r15 [706, 707, 708, 709, 710, 712, 34, 713, 314, 315, 316, 317, 84, 714, 715, 716, 717, 318, 319, 320, 321, 718, 719, 720] (by decide +kernel)
set_option maxRecDepth 20000 in
theorem wl_wsL_law_r16 : ∀ w ∈ wsL_law_r16, w ∈ lw_tbl := wl_pl wsL_law_r16 [721, 722, 724, 35, 725, 322, 323, 324, 325, 326, 327, 328, 329, 331, 8, 332, 333, 335, 9, 336, 337, 338, 339, 340] (by decide +kernel)
set_option maxRecDepth 20000 in
theorem wl_wsL_law_r17 : ∀ w ∈ wsL_law_r17, w ∈ lw_tbl := wl_pl wsL_law_r17 [341, 343, 10, 344, 726, 727, 728, 729, 730, 732, 36, 733, 548, 549, 734, 736, 37, 737, 738, 740, 38, 741, 742, 744] (by decide +kernel)
set_option maxRecDepth 20000 in
theorem wl_wsL_law_r18 : ∀ w ∈ wsL_law_r18, w ∈ lw_tbl := wl_pl wsL_law_r18 [39, 745, 746, 748, 40, 749, 750, 752, 41, 753, 345, 346, 347, 348, 349, 351, 11, 352, 353, 354, 355, 356, 357, 754] (by decide +kernel)
set_option maxRecDepth 20000 in
theorem wl_wsL_law_r19 : ∀ w ∈ wsL_law_r19, w ∈ lw_tbl := wl_pl wsL_law_r19 [755, 756, 757, 358, 359, 360, 361, 362, 363, 364, 365, 758, 759, 760, 761, 366, 367, 368, 369, 370, 371, 372, 373, 762] (by decide +kernel)
set_option maxRecDepth 20000 in
theorem wl_wsL_law_r20 : ∀ w ∈ wsL_law_r20, w ∈ lw_tbl := wl_pl wsL_law_r20 [763, 764, 765, 766, 768, 42, 769, 374, 375, 376, 377, 378, 379, 380, 381, 382, 770, 771, 772, 773, 383, 384, 385, 386] (by decide +kernel)
set_option maxRecDepth 20000 in
theorem wl_wsL_law_r21 : ∀ w ∈ wsL_law_r21, w ∈ lw_tbl := wl_pl wsL_law_r21 [774, 775, 776, 777, 387, 388, 389, 390, 394, 391, 392, 393, 395, 397, 12, 398, 399, 400, 401, 402, 404, 405, 406, 778] (by decide +kernel)
set_option maxRecDepth 20000 in
theorem wl_wsL_law_r22 : ∀ w ∈ wsL_law_r22, w ∈ lw_tbl := wl_pl wsL_law_r22 [779, 780, 781, 782, 783, 784, 785, 786, 787, 788, 407, 408, 409, 410, 411, 789, 790, 791, 792, 412, 413, 414, 415, 416] (by decide +kernel)
set_option maxRecDepth 20000 in
theorem wl_wsL_law_r23 : ∀ w ∈ wsL_law_r23, w ∈ lw_tbl := wl_pl wsL_law_r23 [417, 418, 419, 108, 793, 794, 795, 796, 420, 421, 422, 423, 797, 798, 799, 800, 424, 425, 426, 427, 428, 429, 430, 431] (by decide +kernel)
set_option maxRecDepth 20000 in
theorem wl_wsL_law_r24 : ∀ w ∈ wsL_law_r24, w ∈ lw_tbl := wl_pl wsL_law_r24 [72, 77, 801, 802, 803, 804, 805, 807, 43, 808, 433, 434, 435, 436, 809, 810, 811, 812, 437, 438, 439, 440, 441, 813] (by decide +kernel)
set_option maxRecDepth 20000 in
theorem wl_wsL_law_r25 : ∀ w ∈ wsL_law_r25, w ∈ lw_tbl := wl_pl wsL_law_r25 [814, 815, 816, 442, 443, 444, 445, 446, 447, 448, 449, 450, 451, 817, 818, 819, 820, 452, 453, 454, 455, 130, 821, 822] (by decide +kernel)
set_option maxRecDepth 20000 in
theorem wl_wsL_law_r26 : ∀ w ∈ wsL_law_r26, w ∈ lw_tbl := wl_pl wsL_law_r26 [823, 824, 456, 457, 458, 459, 125, 460, 461, 462, 463, 464, 825, 826, 827, 828, 465, 466, 467, 468, 829, 830, 831, 832] (by decide +kernel)
set_option maxRecDepth 20000 in
theorem wl_wsL_law_r27 : ∀ w ∈ wsL_law_r27, w ∈ lw_tbl := wl_pl wsL_law_r27 [833, 835, 44, 836, 469, 470, 471, 472, 127, 473, 475, 474, 54, 837, 838, 839, 840, 476, 477, 478, 479, 480, 482, 13] (by decide +kernel)
set_option maxRecDepth 20000 in
theorem wl_wsL_law_r28 : ∀ w ∈ wsL_law_r28, w ∈ lw_tbl := wl_pl wsL_law_r28 [483, 484, 486, 14, 487, 145, 488, 490, 15, 491, 492, 494, 16, 495, 841, 842, 843, 844, 845, 847, 45, 848, 531, 496] (by decide +kernel)
set_option maxRecDepth 20000 in
theorem wl_wsL_law_r29 : ∀ w ∈ wsL_law_r29, w ∈ lw_tbl := wl_pl wsL_law_r29 [497, 498, 499, 500, 502, 17, 503, 504, 506, 18, 507, 849, 850, 851, 852, 508, 509, 510, 511, 853, 854, 855, 856, 512] (by decide +kernel)
set_option maxRecDepth 20000 in
theorem wl_wsL_law_r30 : ∀ w ∈ wsL_law_r30, w ∈ lw_tbl := wl_pl wsL_law_r30 [513, 514, 515, 857, 858, 859, 860, 516, 517, 518, 519, 861, 862, 863, 864, 520, 521, 522, 523, 865, 866, 867, 868] (by decide +kernel)
set_option maxRecDepth 20000 in
theorem wl_wsX30 : ∀ w ∈ wsX30, w ∈ lw_tbl := wl_pl wsX30 [147, 149, 151, 153, 155, 157, 159] (by decide +kernel)
set_option maxRecDepth 20000 in
theorem wl_wsX40 : ∀ w ∈ wsX40, w ∈ lw_tbl := wl_pl wsX40 [554, 556, 558, 560, 562, 564, 566, 568, 570, 572, 574, 576, 578, 580, 582, 584, 586, 588, 590, 592, 594, 596, 598, 600] (by decide +kernel)
set_option maxRecDepth 20000 in
theorem wl_wsX20 : ∀ w ∈ wsX20, w ∈ lw_tbl := wl_pl wsX20 [85, 87, 89, 91, 93, 95] (by decide +kernel)
set_option maxRecDepth 20000 in
theorem wl_wsX00 : ∀ w ∈ wsX00, w ∈ lw_tbl := wl_pl wsX00 [110, 112, 114, 116] (by decide +kernel)
set_option maxRecDepth 20000 in
theorem wl_wsX10 : ∀ w ∈ wsX10, w ∈ lw_tbl := wl_pl wsX10 [131, 133, 135, 137] (by decide +kernel)
theorem wsL_law_in : ∀ w ∈ wsL_law, w ∈ lw_tbl := (wl_ap (wl_ap (wl_ap (wl_ap (wl_ap (wl_ap (wl_ap wl_wsL_law_r1 (wl_ap wl_wsL_law_r2 (wl_ap wl_wsL_law_r3 (wl_ap wl_wsL_law_r4 (wl_ap wl_wsL_law_r5 (wl_ap wl_wsL_law_r6 (wl_ap wl_wsL_law_r7 (wl_ap wl_wsL_law_r8 (wl_ap wl_wsL_law_r9 (wl_ap wl_wsL_law_r10 (wl_ap wl_wsL_law_r11 (wl_ap wl_wsL_law_r12 (wl_ap wl_wsL_law_r13 (wl_ap wl_wsL_law_r14 (wl_ap wl_wsL_law_r15 (wl_ap wl_wsL_law_r16 (wl_ap wl_wsL_law_r17 (wl_ap wl_wsL_law_r18 (wl_ap wl_wsL_law_r19 (wl_ap wl_wsL_law_r20 (wl_ap wl_wsL_law_r21 (wl_ap wl_wsL_law_r22 (wl_ap wl_wsL_law_r23 (wl_ap wl_wsL_law_r24 (wl_ap wl_wsL_law_r25 (wl_ap wl_wsL_law_r26 (wl_ap wl_wsL_law_r27 (wl_ap wl_wsL_law_r28 (wl_ap wl_wsL_law_r29 wl_wsL_law_r30))))))))))))))))))))))))))))) wl_wsX30) wl_wsX40) wl_wsX20) wl_wsX00) wl_wsX10) (fun w h => absurd h List.not_mem_nil))
theorem inX3 : ∀ w ∈ wsX30, w ∈ lw_tbl := wl_wsX30
theorem inX4 : ∀ w ∈ wsX40, w ∈ lw_tbl := wl_wsX40
theorem inX2 : ∀ w ∈ wsX20, w ∈ lw_tbl := wl_wsX20
theorem inX0 : ∀ w ∈ wsX00, w ∈ lw_tbl := wl_wsX00
theorem inX1 : ∀ w ∈ wsX10, w ∈ lw_tbl := wl_wsX10
