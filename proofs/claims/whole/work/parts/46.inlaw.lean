/-! The law's words are the tables' words. -/
theorem wl_of {ws big : List Cond} (ps : List Nat) (hp : ws = ps.filterMap (fun i => big[i]?)) : ∀ w ∈ ws, w ∈ big := by
  intro w hw
  rw [hp] at hw
  obtain ⟨i, -, hi⟩ := List.mem_filterMap.mp hw
  exact List.mem_of_getElem? hi
set_option maxRecDepth 100000 in
theorem wli_wsL_law_r1 : ∀ w ∈ wsL_law_r1, w ∈ lw_tbl := wl_of [62, 63, 51, 682, 683, 59, 1015, 64, 65, 66, 67, 68, 69, 70, 71, 52, 217, 100, 101, 55, 218, 219, 140, 141] (by decide +kernel)
set_option maxRecDepth 100000 in
theorem wli_wsL_law_r2 : ∀ w ∈ wsL_law_r2, w ∈ lw_tbl := wl_of [56, 220, 221, 155, 156, 57, 222, 170, 171, 58, 223, 224, 187, 77, 53, 225, 226, 73, 74, 75, 76, 93, 94, 78] (by decide +kernel)
set_option maxRecDepth 100000 in
theorem wli_wsL_law_r3 : ∀ w ∈ wsL_law_r3, w ∈ lw_tbl := wl_of [79, 80, 81, 82, 83, 54, 84, 92, 85, 102, 103, 104, 105, 106, 116, 117, 107, 108, 109, 110, 111, 118, 120, 122] (by decide +kernel)
set_option maxRecDepth 100000 in
theorem wli_wsL_law_r4 : ∀ w ∈ wsL_law_r4, w ∈ lw_tbl := wl_of [125, 112, 113, 114, 115, 86, 143, 144, 145, 146, 148, 149, 147, 158, 159, 160, 161, 163, 164, 162, 172, 173, 174, 175] (by decide +kernel)
set_option maxRecDepth 100000 in
theorem wli_wsL_law_r5 : ∀ w ∈ wsL_law_r5, w ∈ lw_tbl := wl_of [176, 177, 180, 179, 188, 189, 190, 191, 192, 194, 195, 196, 197, 198, 199, 200, 201, 202, 203, 204, 205, 206, 207, 208] (by decide +kernel)
set_option maxRecDepth 100000 in
theorem wli_wsL_law_r6 : ∀ w ∈ wsL_law_r6, w ∈ lw_tbl := wl_of [209, 210, 211, 212, 213, 215, 216, 684, 685, 686, 687, 693, 694, 695, 696, 697, 698, 699, 700, 701, 702, 703, 704, 705] (by decide +kernel)
set_option maxRecDepth 100000 in
theorem wli_wsL_law_r7 : ∀ w ∈ wsL_law_r7, w ∈ lw_tbl := wl_of [708, 710, 712, 713, 714, 716, 717, 718, 719, 688, 690, 27, 691, 248, 249, 250, 251, 252, 253, 254, 255, 260, 256, 257] (by decide +kernel)
set_option maxRecDepth 100000 in
theorem wli_wsL_law_r8 : ∀ w ∈ wsL_law_r8, w ∈ lw_tbl := wl_of [258, 259, 261, 262, 263, 264, 265, 777, 778, 779, 780, 781, 692, 785, 782, 783, 784, 266, 267, 268, 269, 270, 271, 272] (by decide +kernel)
set_option maxRecDepth 100000 in
theorem wli_wsL_law_r9 : ∀ w ∈ wsL_law_r9, w ∈ lw_tbl := wl_of [273, 274, 786, 787, 788, 789, 275, 276, 277, 278, 279, 280, 281, 282, 283, 284, 286, 0, 287, 288, 289, 290, 291, 292] (by decide +kernel)
set_option maxRecDepth 100000 in
theorem wli_wsL_law_r10 : ∀ w ∈ wsL_law_r10, w ∈ lw_tbl := wl_of [294, 1, 295, 296, 298, 2, 299, 301, 303, 3, 304, 305, 307, 4, 308, 309, 310, 311, 312, 313, 314, 316, 317, 318] (by decide +kernel)
set_option maxRecDepth 100000 in
theorem wli_wsL_law_r11 : ∀ w ∈ wsL_law_r11, w ∈ lw_tbl := wl_of [319, 320, 321, 322, 323, 790, 791, 792, 793, 794, 796, 28, 797, 715, 798, 800, 29, 801, 827, 802, 804, 30, 805, 806] (by decide +kernel)
set_option maxRecDepth 100000 in
theorem wli_wsL_law_r12 : ∀ w ∈ wsL_law_r12, w ∈ lw_tbl := wl_of [808, 31, 809, 810, 811, 812, 813, 814, 815, 816, 817, 818, 819, 820, 821, 822, 823, 825, 32, 826, 325, 326, 327, 328] (by decide +kernel)
set_option maxRecDepth 100000 in
theorem wli_wsL_law_r13 : ∀ w ∈ wsL_law_r13, w ∈ lw_tbl := wl_of [329, 330, 331, 332, 333, 334, 335, 336, 337, 338, 339, 340, 341, 342, 343, 344, 345, 346, 347, 348, 181, 828, 829, 830] (by decide +kernel)
set_option maxRecDepth 100000 in
theorem wli_wsL_law_r14 : ∀ w ∈ wsL_law_r14, w ∈ lw_tbl := wl_of [831, 706, 707, 709, 711, 832, 834, 33, 835, 349, 350, 351, 352, 353, 354, 355, 356, 357, 358, 359, 360, 361, 362, 363] (by decide +kernel)
set_option maxRecDepth 100000 in
theorem wli_wsL_law_r15 : ∀ w ∈ wsL_law_r15, w ∈ lw_tbl := wl_of [364, 365, 836, 837, 838, 839, 840, 366, 367, 368, 369, 370, 371, 372, 373, 374, 375, 377, 5, 378, 379, 381, 6, 382] (by decide +kernel)
set_option maxRecDepth 100000 in
theorem wli_wsL_law_r16 : ∀ w ∈ wsL_law_r16, w ∈ lw_tbl := wl_of [383, 384, 385, 386, 388, 389, 390, 387, 391, 393, 7, 394, 395, 396, 397, 398, 400, 8, 401, 402, 403, 404, 405, 406] (by decide +kernel)
set_option maxRecDepth 100000 in
theorem wli_wsL_law_r17 : ∀ w ∈ wsL_law_r17, w ∈ lw_tbl := wl_of [407, 408, 409, 410, 411, 412, 60, 413, 414, 415, 416, 417, 418, 419, 420, 421, 422, 423, 424, 425, 426, 427, 428, 429] (by decide +kernel)
set_option maxRecDepth 100000 in
theorem wli_wsL_law_r18 : ∀ w ∈ wsL_law_r18, w ∈ lw_tbl := wl_of [430, 431, 432, 433, 434, 435, 436, 437, 438, 439, 440, 441, 443, 9, 444, 445, 446, 447, 448, 449, 450, 451, 452, 453] (by decide +kernel)
set_option maxRecDepth 100000 in
theorem wli_wsL_law_r19 : ∀ w ∈ wsL_law_r19, w ∈ lw_tbl := wl_of [454, 456, 10, 457, 458, 841, 842, 843, 844, 845, 847, 34, 848, 849, 851, 35, 852, 853, 854, 855, 856, 858, 36, 859] (by decide +kernel)
set_option maxRecDepth 100000 in
theorem wli_wsL_law_r20 : ∀ w ∈ wsL_law_r20, w ∈ lw_tbl := wl_of [860, 861, 862, 863, 865, 37, 866, 867, 869, 38, 870, 871, 873, 39, 874, 875, 877, 40, 878, 459, 460, 461, 462, 463] (by decide +kernel)
set_option maxRecDepth 100000 in
theorem wli_wsL_law_r21 : ∀ w ∈ wsL_law_r21, w ∈ lw_tbl := wl_of [464, 465, 466, 467, 468, 469, 879, 880, 881, 882, 883, 470, 471, 472, 473, 474, 476, 11, 477, 478, 479, 61, 480, 481] (by decide +kernel)
set_option maxRecDepth 100000 in
theorem wli_wsL_law_r22 : ∀ w ∈ wsL_law_r22, w ∈ lw_tbl := wl_of [482, 483, 884, 885, 886, 887, 888, 890, 41, 891, 892, 894, 42, 895, 896, 897, 898, 484, 485, 486, 487, 488, 490, 12] (by decide +kernel)
set_option maxRecDepth 100000 in
theorem wli_wsL_law_r23 : ∀ w ∈ wsL_law_r23, w ∈ lw_tbl := wl_of [491, 492, 493, 494, 495, 496, 498, 13, 499, 899, 900, 901, 902, 903, 905, 43, 906, 907, 909, 44, 910, 500, 501, 502] (by decide +kernel)
set_option maxRecDepth 100000 in
theorem wli_wsL_law_r24 : ∀ w ∈ wsL_law_r24, w ∈ lw_tbl := wl_of [503, 504, 506, 14, 507, 508, 510, 15, 511, 911, 912, 913, 914, 512, 513, 514, 515, 516, 517, 518, 519, 520, 522, 16] (by decide +kernel)
set_option maxRecDepth 100000 in
theorem wli_wsL_law_r25 : ∀ w ∈ wsL_law_r25, w ∈ lw_tbl := wl_of [523, 524, 526, 17, 527, 528, 915, 916, 917, 918, 919, 921, 45, 922, 529, 530, 531, 532, 533, 534, 535, 536, 537, 923] (by decide +kernel)
set_option maxRecDepth 100000 in
theorem wli_wsL_law_r26 : ∀ w ∈ wsL_law_r26, w ∈ lw_tbl := wl_of [924, 925, 926, 538, 539, 540, 541, 542, 927, 928, 929, 930, 543, 544, 545, 546, 547, 548, 549, 550, 551, 552, 553, 554] (by decide +kernel)
set_option maxRecDepth 100000 in
theorem wli_wsL_law_r27 : ∀ w ∈ wsL_law_r27, w ∈ lw_tbl := wl_of [931, 932, 933, 934, 555, 556, 557, 558, 935, 936, 937, 938, 939, 941, 46, 942, 559, 560, 561, 562, 563, 564, 943, 944] (by decide +kernel)
set_option maxRecDepth 100000 in
theorem wli_wsL_law_r28 : ∀ w ∈ wsL_law_r28, w ∈ lw_tbl := wl_of [945, 946, 565, 566, 567, 568, 947, 948, 949, 950, 569, 570, 571, 572, 573, 575, 18, 576, 577, 578, 579, 580, 582, 19] (by decide +kernel)
set_option maxRecDepth 100000 in
theorem wli_wsL_law_r29 : ∀ w ∈ wsL_law_r29, w ∈ lw_tbl := wl_of [583, 584, 586, 20, 587, 588, 589, 590, 591, 592, 593, 595, 21, 596, 597, 598, 599, 600, 601, 951, 952, 953, 954, 955] (by decide +kernel)
set_option maxRecDepth 100000 in
theorem wli_wsL_law_r30 : ∀ w ∈ wsL_law_r30, w ∈ lw_tbl := wl_of [957, 47, 958, 959, 961, 48, 962, 602, 603, 604, 605, 606, 608, 22, 609, 963, 964, 965, 966, 610, 611, 612, 613, 967] (by decide +kernel)
set_option maxRecDepth 100000 in
theorem wli_wsL_law_r31 : ∀ w ∈ wsL_law_r31, w ∈ lw_tbl := wl_of [968, 969, 970, 614, 615, 616, 617, 618, 620, 23, 621, 622, 624, 24, 625, 626, 627, 628, 629, 630, 631, 971, 972, 973] (by decide +kernel)
set_option maxRecDepth 100000 in
theorem wli_wsL_law_r32 : ∀ w ∈ wsL_law_r32, w ∈ lw_tbl := wl_of [974, 632, 633, 634, 635, 636, 975, 976, 977, 978, 637, 638, 639, 640, 979, 980, 981, 982, 641, 642, 643, 644, 645, 647] (by decide +kernel)
set_option maxRecDepth 100000 in
theorem wli_wsL_law_r33 : ∀ w ∈ wsL_law_r33, w ∈ lw_tbl := wl_of [25, 648, 983, 984, 985, 986, 987, 989, 49, 990, 649, 650, 651, 652, 653, 654, 655, 656, 657, 991, 992, 993, 994, 658] (by decide +kernel)
set_option maxRecDepth 100000 in
theorem wli_wsL_law_r34 : ∀ w ∈ wsL_law_r34, w ∈ lw_tbl := wl_of [659, 660, 661, 662, 664, 26, 665, 666, 667, 668, 669, 995, 996, 997, 998, 999, 1000, 1001, 1002, 670, 671, 672, 673, 1003] (by decide +kernel)
set_option maxRecDepth 100000 in
theorem wli_wsL_law_r35 : ∀ w ∈ wsL_law_r35, w ∈ lw_tbl := wl_of [1004, 1005, 1006, 674, 675, 676, 677, 1007, 1008, 1009, 1010, 678, 679, 680, 681, 1011, 1012, 1013, 1014] (by decide +kernel)
set_option maxRecDepth 100000 in
theorem wlu_X0 : ∀ w ∈ wsX00, w ∈ lw_tbl := wl_of [127, 129, 131, 133, 135, 137] (by decide +kernel)
set_option maxRecDepth 100000 in
theorem wlu_X1 : ∀ w ∈ wsX10, w ∈ lw_tbl := wl_of [87, 89] (by decide +kernel)
set_option maxRecDepth 100000 in
theorem wlu_X2 : ∀ w ∈ wsX20, w ∈ lw_tbl := wl_of [182, 184] (by decide +kernel)
set_option maxRecDepth 100000 in
theorem wlu_X3 : ∀ w ∈ wsX30, w ∈ lw_tbl := wl_of [165, 167] (by decide +kernel)
set_option maxRecDepth 100000 in
theorem wlu_X4 : ∀ w ∈ wsX40, w ∈ lw_tbl := wl_of [95, 97] (by decide +kernel)
set_option maxRecDepth 100000 in
theorem wlu_X5 : ∀ w ∈ wsX50, w ∈ lw_tbl := wl_of [150, 152] (by decide +kernel)
set_option maxRecDepth 100000 in
theorem wlu_X6 : ∀ w ∈ wsX60, w ∈ lw_tbl := wl_of [227, 229, 231, 233, 235, 237, 239, 241, 243, 245] (by decide +kernel)
set_option maxRecDepth 100000 in
theorem wlu_X7 : ∀ w ∈ wsX70, w ∈ lw_tbl := wl_of [720, 722, 724, 726, 728, 730, 732, 734, 736, 738, 740, 742, 744, 746, 748, 750, 752, 754, 756, 758, 760, 762, 764, 766, 768, 770, 772, 774] (by decide +kernel)
theorem wsL_law_in : ∀ w ∈ wsL_law, w ∈ lw_tbl := List.forall_mem_append.mpr ⟨List.forall_mem_append.mpr ⟨List.forall_mem_append.mpr ⟨List.forall_mem_append.mpr ⟨List.forall_mem_append.mpr ⟨List.forall_mem_append.mpr ⟨List.forall_mem_append.mpr ⟨List.forall_mem_append.mpr ⟨List.forall_mem_append.mpr ⟨List.forall_mem_append.mpr ⟨wli_wsL_law_r1, List.forall_mem_append.mpr ⟨wli_wsL_law_r2, List.forall_mem_append.mpr ⟨wli_wsL_law_r3, List.forall_mem_append.mpr ⟨wli_wsL_law_r4, List.forall_mem_append.mpr ⟨wli_wsL_law_r5, List.forall_mem_append.mpr ⟨wli_wsL_law_r6, List.forall_mem_append.mpr ⟨wli_wsL_law_r7, List.forall_mem_append.mpr ⟨wli_wsL_law_r8, List.forall_mem_append.mpr ⟨wli_wsL_law_r9, List.forall_mem_append.mpr ⟨wli_wsL_law_r10, List.forall_mem_append.mpr ⟨wli_wsL_law_r11, List.forall_mem_append.mpr ⟨wli_wsL_law_r12, List.forall_mem_append.mpr ⟨wli_wsL_law_r13, List.forall_mem_append.mpr ⟨wli_wsL_law_r14, List.forall_mem_append.mpr ⟨wli_wsL_law_r15, List.forall_mem_append.mpr ⟨wli_wsL_law_r16, List.forall_mem_append.mpr ⟨wli_wsL_law_r17, List.forall_mem_append.mpr ⟨wli_wsL_law_r18, List.forall_mem_append.mpr ⟨wli_wsL_law_r19, List.forall_mem_append.mpr ⟨wli_wsL_law_r20, List.forall_mem_append.mpr ⟨wli_wsL_law_r21, List.forall_mem_append.mpr ⟨wli_wsL_law_r22, List.forall_mem_append.mpr ⟨wli_wsL_law_r23, List.forall_mem_append.mpr ⟨wli_wsL_law_r24, List.forall_mem_append.mpr ⟨wli_wsL_law_r25, List.forall_mem_append.mpr ⟨wli_wsL_law_r26, List.forall_mem_append.mpr ⟨wli_wsL_law_r27, List.forall_mem_append.mpr ⟨wli_wsL_law_r28, List.forall_mem_append.mpr ⟨wli_wsL_law_r29, List.forall_mem_append.mpr ⟨wli_wsL_law_r30, List.forall_mem_append.mpr ⟨wli_wsL_law_r31, List.forall_mem_append.mpr ⟨wli_wsL_law_r32, List.forall_mem_append.mpr ⟨wli_wsL_law_r33, List.forall_mem_append.mpr ⟨wli_wsL_law_r34, wli_wsL_law_r35⟩⟩⟩⟩⟩⟩⟩⟩⟩⟩⟩⟩⟩⟩⟩⟩⟩⟩⟩⟩⟩⟩⟩⟩⟩⟩⟩⟩⟩⟩⟩⟩⟩⟩, wlu_X6⟩, wlu_X7⟩, wlu_X4⟩, wlu_X0⟩, wlu_X5⟩, wlu_X3⟩, wlu_X2⟩, wlu_X1⟩, fun _ h => absurd h List.not_mem_nil⟩
set_option maxRecDepth 100000 in
theorem wl_nz : ∀ w ∈ nzW, w ∈ lw_tbl := wl_of [72, 119, 121, 123, 124, 126, 142, 157, 193, 214, 300, 315, 324] (by decide +kernel)
set_option maxRecDepth 100000 in
theorem wl_ao : ∀ w ∈ ([.arrayOver (.object RX0), .arrayClass .int] : List Cond), w ∈ lw_tbl := wl_of [178, 92] (by decide +kernel)
theorem nz_law {A : Array Value} {s : State} (hts : ∀ w ∈ lw_tbl, w.before A s = true) : nzP s := by
  intro w hw
  have h := hts w (wl_nz w hw)
  simp only [nzW, List.mem_cons, List.not_mem_nil, or_false] at hw
  rcases hw with rfl | rfl | rfl | rfl | rfl | rfl | rfl | rfl | rfl | rfl | rfl | rfl | rfl <;> exact va_Nw.of rfl h
theorem ao_law {A : Array Value} {s : State} (hts : ∀ w ∈ lw_tbl, w.before A s = true) : va_AO RX0 s := va_AO.of (hts _ (wl_ao _ List.mem_cons_self))
theorem cI_law {A : Array Value} {s : State} (hts : ∀ w ∈ lw_tbl, w.before A s = true) : ∃ cI : ClassId, ArrOfT s cI .int ∧ va_RA s cI .int := by
  obtain ⟨cA, kA, comp, h1, h2, h3⟩ := Cond.arrayClass_spec (hts _ (wl_ao _ (List.mem_cons_of_mem _ List.mem_cons_self)))
  exact ⟨cA, fun n z => ⟨fun k h => (by cases h), kA, h2, comp, h3⟩, h1⟩
theorem cC_law {A : Array Value} {s : State} (hts : ∀ w ∈ lw_tbl, w.before A s = true) : ∃ cC : ClassId, ArrOfT s cC (.object RX0) ∧ va_RA s cC (.object RX0) := by
  obtain ⟨comp, cA, kA, h1, -, h2, h3, h4⟩ := Cond.arrayOver_spec (hts _ (wl_ao _ List.mem_cons_self))
  exact ⟨cA, fun n z => ⟨fun k h => (by cases h), kA, h2, comp, h3⟩, kA, comp, h2, h3, h1, h4⟩
