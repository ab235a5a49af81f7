set_option maxRecDepth 20000 in
theorem wsL_law_i5 : ∀ w ∈ wsL_law0_r5, w ∈ lw_tbl := in_r _ [267, 268, 269, 270, 271, 272, 277, 45, 273, 275, 10, 276, 292, 293, 294, 295, 296, 298, 11, 299, 300, 301, 46, 302] (by decide +kernel)
set_option maxRecDepth 20000 in
theorem wsL_law_i6 : ∀ w ∈ wsL_law0_r6, w ∈ lw_tbl := in_r _ [141, 143, 2, 144, 145, 146, 147, 303, 304, 305, 306, 307, 308, 310, 12, 311, 639, 640, 641, 642, 578, 582, 643, 645] (by decide +kernel)
set_option maxRecDepth 20000 in
theorem wsL_law_i7 : ∀ w ∈ wsL_law0_r7, w ∈ lw_tbl := in_r _ [24, 646, 647, 649, 25, 650, 651, 653, 26, 654, 312, 313, 314, 315, 316, 317, 318, 319, 321, 320, 47, 655, 656, 657] (by decide +kernel)
set_option maxRecDepth 20000 in
theorem wsL_law_i8 : ∀ w ∈ wsL_law0_r8, w ∈ lw_tbl := in_r _ [658, 121, 122, 123, 124, 659, 660, 661, 662, 322, 323, 324, 325, 326, 327, 328, 329, 334, 48, 330, 332, 13, 333, 349] (by decide +kernel)
set_option maxRecDepth 20000 in
theorem wsL_law_i9 : ∀ w ∈ wsL_law0_r9, w ∈ lw_tbl := in_r _ [350, 351, 352, 353, 354, 355, 663, 664, 665, 666, 356, 357, 358, 359, 360, 361, 362, 363, 364, 365, 366, 368, 14, 369] (by decide +kernel)
set_option maxRecDepth 20000 in
theorem wsL_law_i10 : ∀ w ∈ wsL_law0_r10, w ∈ lw_tbl := in_r _ [370, 371, 372, 373, 178, 180, 7, 181, 161, 162, 183, 185, 8, 186, 667, 668, 669, 670, 671, 673, 27, 674, 675, 677] (by decide +kernel)
set_option maxRecDepth 20000 in
theorem wsL_law_i11 : ∀ w ∈ wsL_law0_r11, w ∈ lw_tbl := in_r _ [28, 678, 679, 681, 29, 682, 683, 684, 685, 374, 375, 376, 377, 378, 379, 380, 381, 383, 15, 384, 385, 386, 387, 388] (by decide +kernel)
set_option maxRecDepth 20000 in
theorem wsL_law_i12 : ∀ w ∈ wsL_law0_r12, w ∈ lw_tbl := in_r _ [389, 686, 687, 688, 689, 579, 690, 692, 30, 693, 390, 391, 392, 393, 394, 395, 396, 397, 398, 399, 400, 401, 694, 695] (by decide +kernel)
set_option maxRecDepth 20000 in
theorem wsL_law_i13 : ∀ w ∈ wsL_law0_r13, w ∈ lw_tbl := in_r _ [696, 697, 402, 403, 404, 405, 406, 407, 408, 409, 410, 411, 412, 413, 418, 419, 420, 414, 416, 16, 417, 421, 423, 17] (by decide +kernel)
set_option maxRecDepth 20000 in
theorem wsL_law_i14 : ∀ w ∈ wsL_law0_r14, w ∈ lw_tbl := in_r _ [424, 430, 49, 425, 426, 427, 428, 429, 698, 699, 700, 701, 702, 704, 31, 705, 706, 445, 446, 447, 448, 449, 450, 451] (by decide +kernel)
set_option maxRecDepth 20000 in
theorem wsL_law_i15 : ∀ w ∈ wsL_law0_r15, w ∈ lw_tbl := in_r _ [452, 454, 18, 455, 456, 457, 458, 459, 707, 708, 709, 710, 460, 461, 462, 463, 464, 465, 466, 467, 468, 469, 470, 471] (by decide +kernel)
set_option maxRecDepth 20000 in
theorem wsL_law_i16 : ∀ w ∈ wsL_law0_r16, w ∈ lw_tbl := in_r _ [472, 473, 474, 475, 477, 19, 478, 711, 712, 713, 714, 715, 716, 717, 479, 480, 481, 482, 483, 484, 485, 486, 487, 488] (by decide +kernel)
set_option maxRecDepth 20000 in
theorem wsL_law_i17 : ∀ w ∈ wsL_law0_r17, w ∈ lw_tbl := in_r _ [489, 718, 719, 720, 721, 490, 491, 492, 493, 494, 495, 496, 497, 498, 499, 500, 722, 723, 724, 725, 501, 502, 503, 504] (by decide +kernel)
set_option maxRecDepth 20000 in
theorem wsL_law_i18 : ∀ w ∈ wsL_law0_r18, w ∈ lw_tbl := in_r _ [505, 506, 507, 726, 727, 728, 729, 508, 509, 510, 511, 512, 513, 514, 730, 731, 732, 733, 515, 516, 517, 518, 519, 520] (by decide +kernel)
set_option maxRecDepth 20000 in
theorem wsL_law_i19 : ∀ w ∈ wsL_law0_r19, w ∈ lw_tbl := in_r _ [521, 522, 524, 20, 525, 734, 735, 736, 737, 526, 527, 528, 529, 530, 531, 532, 533, 534, 535, 536, 137, 139, 1, 140] (by decide +kernel)
set_option maxRecDepth 20000 in
theorem wsL_law_i20 : ∀ w ∈ wsL_law0_r20, w ∈ lw_tbl := in_r _ [738, 739, 740, 741, 742, 744, 32, 745, 537, 538, 539, 540, 541, 542, 543, 170, 172, 6, 173, 174, 175, 176, 177, 156] (by decide +kernel)
set_option maxRecDepth 20000 in
theorem wsL_law_i21 : ∀ w ∈ wsL_law0_r21, w ∈ lw_tbl := in_r _ [158, 4, 159, 160, 148, 150, 3, 151, 746, 747, 748, 749, 583, 750, 752, 33, 753, 754, 756, 34, 757, 758, 760, 35] (by decide +kernel)
set_option maxRecDepth 20000 in
theorem wsL_law_i22 : ∀ w ∈ wsL_law0_r22, w ∈ lw_tbl := in_r _ [761, 125, 126, 127, 128, 129, 131, 0, 132, 133, 134, 135, 136, 762, 763, 764, 765, 544, 545, 546, 547, 548, 549, 550] (by decide +kernel)
set_option maxRecDepth 20000 in
theorem wsL_law_i23 : ∀ w ∈ wsL_law0_r23, w ∈ lw_tbl := in_r _ [766, 767, 768, 769, 152, 153, 154, 155, 163, 165, 5, 166, 167, 168, 169, 770, 771, 772, 773, 584, 585, 586, 774, 775] (by decide +kernel)
set_option maxRecDepth 20000 in
theorem wsL_law_i24 : ∀ w ∈ wsL_law0_r24, w ∈ lw_tbl := in_r _ [776, 551, 552, 553, 554, 555, 556, 557, 558, 560, 21, 561, 777, 778, 779, 780, 562, 563, 564, 565, 566, 567, 568, 781] (by decide +kernel)
set_option maxRecDepth 20000 in
theorem wsL_law_i25 : ∀ w ∈ wsL_law0_r25, w ∈ lw_tbl := in_r _ [782, 783, 784] (by decide +kernel)
set_option maxRecDepth 20000 in
theorem wsL_law_jX1 : ∀ w ∈ wsX10, w ∈ lw_tbl := by decide +kernel
set_option maxRecDepth 20000 in
theorem wsL_law_jX2 : ∀ w ∈ wsX20, w ∈ lw_tbl := by decide +kernel
set_option maxRecDepth 20000 in
theorem wsL_law_jX0 : ∀ w ∈ wsX00, w ∈ lw_tbl := by decide +kernel
theorem wsL_law_in0 : ∀ w ∈ wsL_law0, w ∈ lw_tbl := fun w h => (List.mem_append.mp h).elim (fun h => (List.mem_append.mp h).elim (fun h => (List.mem_append.mp h).elim (fun h => (List.mem_append.mp h).elim (fun h => (List.mem_append.mp h).elim (fun h => wsL_law_i1 w h) (fun h => (List.mem_append.mp h).elim (fun h => wsL_law_i2 w h) (fun h => (List.mem_append.mp h).elim (fun h => wsL_law_i3 w h) (fun h => (List.mem_append.mp h).elim (fun h => wsL_law_i4 w h) (fun h => (List.mem_append.mp h).elim (fun h => wsL_law_i5 w h) (fun h => (List.mem_append.mp h).elim (fun h => wsL_law_i6 w h) (fun h => (List.mem_append.mp h).elim (fun h => wsL_law_i7 w h) (fun h => (List.mem_append.mp h).elim (fun h => wsL_law_i8 w h) (fun h => (List.mem_append.mp h).elim (fun h => wsL_law_i9 w h) (fun h => (List.mem_append.mp h).elim (fun h => wsL_law_i10 w h) (fun h => (List.mem_append.mp h).elim (fun h => wsL_law_i11 w h) (fun h => (List.mem_append.mp h).elim (fun h => wsL_law_i12 w h) (fun h => (List.mem_append.mp h).elim (fun h => wsL_law_i13 w h) (fun h => (List.mem_append.mp h).elim (fun h => wsL_law_i14 w h) (fun h => (List.mem_append.mp h).elim (fun h => wsL_law_i15 w h) (fun h => (List.mem_append.mp h).elim (fun h => wsL_law_i16 w h) (fun h => (List.mem_append.mp h).elim (fun h => wsL_law_i17 w h) (fun h => (List.mem_append.mp h).elim (fun h => wsL_law_i18 w h) (fun h => (List.mem_append.mp h).elim (fun h => wsL_law_i19 w h) (fun h => (List.mem_append.mp h).elim (fun h => wsL_law_i20 w h) (fun h => (List.mem_append.mp h).elim (fun h => wsL_law_i21 w h) (fun h => (List.mem_append.mp h).elim (fun h => wsL_law_i22 w h) (fun h => (List.mem_append.mp h).elim (fun h => wsL_law_i23 w h) (fun h => (List.mem_append.mp h).elim (fun h => wsL_law_i24 w h) (fun h => wsL_law_i25 w h))))))))))))))))))))))))) (fun h => wsL_law_jX1 w h)) (fun h => wsL_law_jX2 w h)) (fun h => wsL_law_jX0 w h)) (fun h => absurd h List.not_mem_nil)
theorem wsL_law_x0 : ∀ w ∈ (vx_at0 RX1 63 "java/lang/IllegalArgumentException" ["java/lang/RuntimeException", "java/lang/Exception"]).filter goodWord, w ∈ lw_tbl := by decide +kernel
theorem wsL_law_x1 : ∀ w ∈ (vx_at0 RX1 76 "java/lang/IllegalStateException" ["java/lang/RuntimeException", "java/lang/Exception"]).filter goodWord, w ∈ lw_tbl := by decide +kernel
theorem wsL_law_x2 : ∀ w ∈ (vx_at0 RX1 101 "java/util/NoSuchElementException" ["java/lang/RuntimeException", "java/lang/Exception"]).filter goodWord, w ∈ lw_tbl := by decide +kernel
theorem wsL_law_x3 : ∀ w ∈ (vx_at0 RX1 189 "java/lang/ArithmeticException" ["java/lang/RuntimeException", "java/lang/Exception"]).filter goodWord, w ∈ lw_tbl := by decide +kernel
theorem wsL_law_in : ∀ w ∈ wsL_law, w ∈ lw_tbl := fun w h => (List.mem_append.mp h).elim (fun h => (List.mem_append.mp h).elim (fun h => (List.mem_append.mp h).elim (fun h => (List.mem_append.mp h).elim (fun h => wsL_law_in0 w h) (fun h => wsL_law_x0 w h)) (fun h => wsL_law_x1 w h)) (fun h => wsL_law_x2 w h)) (fun h => wsL_law_x3 w h)
theorem inlX0 : ∀ w ∈ wsX00, w ∈ wsL_law := fun _ h => List.mem_append_left _ (List.mem_append_left _ (List.mem_append_left _ (List.mem_append_left _ (List.mem_append_left _ (List.mem_append_right _ h)))))
theorem inX0 : ∀ w ∈ wsX00, w ∈ lw_tbl := fun w h => wsL_law_in w (inlX0 w h)
theorem inlX1 : ∀ w ∈ wsX10, w ∈ wsL_law := fun _ h => List.mem_append_left _ (List.mem_append_left _ (List.mem_append_left _ (List.mem_append_left _ (List.mem_append_left _ (List.mem_append_left _ (List.mem_append_left _ (List.mem_append_right _ h)))))))
theorem inX1 : ∀ w ∈ wsX10, w ∈ lw_tbl := fun w h => wsL_law_in w (inlX1 w h)
theorem inlX2 : ∀ w ∈ wsX20, w ∈ wsL_law := fun _ h => List.mem_append_left _ (List.mem_append_left _ (List.mem_append_left _ (List.mem_append_left _ (List.mem_append_left _ (List.mem_append_left _ (List.mem_append_right _ h))))))
theorem inX2 : ∀ w ∈ wsX20, w ∈ lw_tbl := fun w h => wsL_law_in w (inlX2 w h)
theorem inJ9 : ∀ w ∈ wsJ90, w ∈ lw_tbl := by decide +kernel
theorem inJ10 : ∀ w ∈ wsJ100, w ∈ lw_tbl := by decide +kernel
theorem inJ7 : ∀ w ∈ wsJ70, w ∈ lw_tbl := by decide +kernel
theorem dX0_init_0 : decode cX0_init 0 = .ok (.aload_n 0, 1) := by decide +kernel
theorem dX0_init_1 : decode cX0_init 1 = .ok (.invokespecial 3, 3) := by decide +kernel
theorem dX0_init_4 : decode cX0_init 4 = .ok (.aload_n 0, 1) := by decide +kernel
theorem dX0_init_5 : decode cX0_init 5 = .ok (.bipush 10, 2) := by decide +kernel
theorem dX0_init_7 : decode cX0_init 7 = .ok (.newarray .int, 2) := by decide +kernel
theorem dX0_init_9 : decode cX0_init 9 = .ok (.putfield 9, 3) := by decide +kernel
theorem dX0_init_12 : decode cX0_init 12 = .ok (.aload_n 0, 1) := by decide +kernel
theorem dX0_init_13 : decode cX0_init 13 = .ok (.iconst 0, 1) := by decide +kernel
theorem dX0_init_14 : decode cX0_init 14 = .ok (.putfield 15, 3) := by decide +kernel
theorem dX0_init_17 : decode cX0_init 17 = .ok (.aload_n 0, 1) := by decide +kernel
theorem dX0_init_18 : decode cX0_init 18 = .ok (.iconst 0, 1) := by decide +kernel
theorem dX0_init_19 : decode cX0_init 19 = .ok (.putfield 19, 3) := by decide +kernel
theorem dX0_init_22 : decode cX0_init 22 = .ok (.return_, 1) := by decide +kernel
theorem dX0_become_0 : decode cX0_become 0 = .ok (.aload_n 1, 1) := by decide +kernel
theorem dX0_become_1 : decode cX0_become 1 = .ok (.getfield 9, 3) := by decide +kernel
theorem dX0_become_4 : decode cX0_become 4 = .ok (.iconst 0, 1) := by decide +kernel
theorem dX0_become_5 : decode cX0_become 5 = .ok (.aload_n 0, 1) := by decide +kernel
theorem dX0_become_6 : decode cX0_become 6 = .ok (.getfield 9, 3) := by decide +kernel
theorem dX0_become_9 : decode cX0_become 9 = .ok (.iconst 0, 1) := by decide +kernel
theorem dX0_become_10 : decode cX0_become 10 = .ok (.bipush 10, 2) := by decide +kernel
theorem dX0_become_12 : decode cX0_become 12 = .ok (.invokestatic 23, 3) := by decide +kernel
theorem dX0_become_15 : decode cX0_become 15 = .ok (.aload_n 0, 1) := by decide +kernel
theorem dX0_become_16 : decode cX0_become 16 = .ok (.aload_n 1, 1) := by decide +kernel
theorem dX0_become_17 : decode cX0_become 17 = .ok (.getfield 15, 3) := by decide +kernel
theorem dX0_become_20 : decode cX0_become 20 = .ok (.putfield 15, 3) := by decide +kernel
theorem dX0_become_23 : decode cX0_become 23 = .ok (.return_, 1) := by decide +kernel
set_option maxRecDepth 20000 in
theorem ggX0_becomeAtLeast_X0_normalize : GoodIn wsX0_becomeAtLeast wsX0_normalize := goodIn_r _ [5, 6, 7, 8, 9, 10, 11, 12, 13, 14, 4, 15, 16, 17, 18, 19, 20, 21] (by decide +kernel) (by decide +kernel)
set_option maxRecDepth 20000 in
theorem gX0_becomeAtLeast_X0_normalize : GoodIn wsX0_becomeAtLeast (wsV RX0 29 RX0 yX0_normalize wsX0_normalize) := goodIn_app (goodIn_of _ (by decide +kernel)) ggX0_becomeAtLeast_X0_normalize
theorem dX0_becomeAtLeast_0 : decode cX0_becomeAtLeast 0 = .ok (.aload_n 0, 1) := by decide +kernel
theorem dX0_becomeAtLeast_1 : decode cX0_becomeAtLeast 1 = .ok (.aload_n 1, 1) := by decide +kernel
theorem dX0_becomeAtLeast_2 : decode cX0_becomeAtLeast 2 = .ok (.iconst 1, 1) := by decide +kernel
theorem dX0_becomeAtLeast_3 : decode cX0_becomeAtLeast 3 = .ok (.iload_n 2, 1) := by decide +kernel
theorem dX0_becomeAtLeast_4 : decode cX0_becomeAtLeast 4 = .ok (.invokevirtual 29, 3) := by decide +kernel
theorem dX0_becomeAtLeast_7 : decode cX0_becomeAtLeast 7 = .ok (.return_, 1) := by decide +kernel
set_option maxRecDepth 20000 in
theorem ggX0_becomeAtMost_X0_normalize : GoodIn wsX0_becomeAtMost wsX0_normalize := goodIn_r _ [5, 6, 7, 8, 9, 10, 11, 12, 13, 14, 4, 15, 16, 17, 18, 19, 20, 21] (by decide +kernel) (by decide +kernel)
set_option maxRecDepth 20000 in
theorem gX0_becomeAtMost_X0_normalize : GoodIn wsX0_becomeAtMost (wsV RX0 29 RX0 yX0_normalize wsX0_normalize) := goodIn_app (goodIn_of _ (by decide +kernel)) ggX0_becomeAtMost_X0_normalize
theorem dX0_becomeAtMost_0 : decode cX0_becomeAtMost 0 = .ok (.aload_n 0, 1) := by decide +kernel
theorem dX0_becomeAtMost_1 : decode cX0_becomeAtMost 1 = .ok (.aload_n 1, 1) := by decide +kernel
theorem dX0_becomeAtMost_2 : decode cX0_becomeAtMost 2 = .ok (.iconst (-1), 1) := by decide +kernel
theorem dX0_becomeAtMost_3 : decode cX0_becomeAtMost 3 = .ok (.iload_n 2, 1) := by decide +kernel
theorem dX0_becomeAtMost_4 : decode cX0_becomeAtMost 4 = .ok (.ineg, 1) := by decide +kernel
theorem dX0_becomeAtMost_5 : decode cX0_becomeAtMost 5 = .ok (.invokevirtual 29, 3) := by decide +kernel
theorem dX0_becomeAtMost_8 : decode cX0_becomeAtMost 8 = .ok (.return_, 1) := by decide +kernel
set_option maxRecDepth 20000 in
theorem ggX0_normalize_X0_size : GoodIn wsX0_normalize wsX0_size := goodIn_r _ [11, 1, 12, 13, 4, 14, 15, 16, 17] (by decide +kernel) (by decide +kernel)
set_option maxRecDepth 20000 in
theorem gX0_normalize_X0_size : GoodIn wsX0_normalize (wsV RX0 33 RX0 yX0_size wsX0_size) := goodIn_app (goodIn_of _ (by decide +kernel)) ggX0_normalize_X0_size
theorem dX0_normalize_0 : decode cX0_normalize 0 = .ok (.iload_n 3, 1) := by decide +kernel
theorem dX0_normalize_1 : decode cX0_normalize 1 = .ok (.istore 4, 2) := by decide +kernel
theorem dX0_normalize_3 : decode cX0_normalize 3 = .ok (.iconst 0, 1) := by decide +kernel
theorem dX0_normalize_4 : decode cX0_normalize 4 = .ok (.istore 5, 2) := by decide +kernel
theorem dX0_normalize_6 : decode cX0_normalize 6 = .ok (.iload 5, 2) := by decide +kernel
theorem dX0_normalize_8 : decode cX0_normalize 8 = .ok (.bipush 10, 2) := by decide +kernel
theorem dX0_normalize_10 : decode cX0_normalize 10 = .ok (.if_icmp .ge 43, 3) := by decide +kernel
theorem dX0_normalize_13 : decode cX0_normalize 13 = .ok (.aload_n 0, 1) := by decide +kernel
theorem dX0_normalize_14 : decode cX0_normalize 14 = .ok (.getfield 9, 3) := by decide +kernel
theorem dX0_normalize_17 : decode cX0_normalize 17 = .ok (.iload 5, 2) := by decide +kernel
theorem dX0_normalize_19 : decode cX0_normalize 19 = .ok (.iload_n 2, 1) := by decide +kernel
theorem dX0_normalize_20 : decode cX0_normalize 20 = .ok (.aload_n 1, 1) := by decide +kernel
theorem dX0_normalize_21 : decode cX0_normalize 21 = .ok (.iload 5, 2) := by decide +kernel
theorem dX0_normalize_23 : decode cX0_normalize 23 = .ok (.iaload, 1) := by decide +kernel
theorem dX0_normalize_24 : decode cX0_normalize 24 = .ok (.imul, 1) := by decide +kernel
theorem dX0_normalize_25 : decode cX0_normalize 25 = .ok (.iastore, 1) := by decide +kernel
theorem dX0_normalize_26 : decode cX0_normalize 26 = .ok (.aload_n 0, 1) := by decide +kernel
theorem dX0_normalize_27 : decode cX0_normalize 27 = .ok (.getfield 9, 3) := by decide +kernel
theorem dX0_normalize_30 : decode cX0_normalize 30 = .ok (.iload 5, 2) := by decide +kernel
theorem dX0_normalize_32 : decode cX0_normalize 32 = .ok (.iaload, 1) := by decide +kernel
theorem dX0_normalize_33 : decode cX0_normalize 33 = .ok (.ifCond .ge 14, 3) := by decide +kernel
theorem dX0_normalize_36 : decode cX0_normalize 36 = .ok (.iload 4, 2) := by decide +kernel
theorem dX0_normalize_38 : decode cX0_normalize 38 = .ok (.aload_n 0, 1) := by decide +kernel
theorem dX0_normalize_39 : decode cX0_normalize 39 = .ok (.iload 5, 2) := by decide +kernel
theorem dX0_normalize_41 : decode cX0_normalize 41 = .ok (.invokevirtual 33, 3) := by decide +kernel
theorem dX0_normalize_44 : decode cX0_normalize 44 = .ok (.iadd, 1) := by decide +kernel
theorem dX0_normalize_45 : decode cX0_normalize 45 = .ok (.istore 4, 2) := by decide +kernel
theorem dX0_normalize_47 : decode cX0_normalize 47 = .ok (.iinc 5 1, 3) := by decide +kernel
theorem dX0_normalize_50 : decode cX0_normalize 50 = .ok (.goto (-44), 3) := by decide +kernel
theorem dX0_normalize_53 : decode cX0_normalize 53 = .ok (.aload_n 0, 1) := by decide +kernel
theorem dX0_normalize_54 : decode cX0_normalize 54 = .ok (.iload 4, 2) := by decide +kernel
theorem dX0_normalize_56 : decode cX0_normalize 56 = .ok (.iconst 0, 1) := by decide +kernel
theorem dX0_normalize_57 : decode cX0_normalize 57 = .ok (.invokestatic 37, 3) := by decide +kernel
theorem dX0_normalize_60 : decode cX0_normalize 60 = .ok (.putfield 15, 3) := by decide +kernel
theorem dX0_normalize_63 : decode cX0_normalize 63 = .ok (.return_, 1) := by decide +kernel
set_option maxRecDepth 20000 in
theorem ggX0_becomeAxiom_J7_fill_53178 : GoodIn wsX0_becomeAxiom wsJ7_fill_53178 := goodIn_r _ [6] (by decide +kernel) (by decide +kernel)
set_option maxRecDepth 20000 in
theorem gX0_becomeAxiom_J7_fill_53178 : GoodIn wsX0_becomeAxiom (va_wsS RX0 43 yJ7_fill_53178 wsJ7_fill_53178) := goodIn_app (goodIn_of _ (by decide +kernel)) ggX0_becomeAxiom_J7_fill_53178
theorem dX0_becomeAxiom_0 : decode cX0_becomeAxiom 0 = .ok (.aload_n 0, 1) := by decide +kernel
theorem dX0_becomeAxiom_1 : decode cX0_becomeAxiom 1 = .ok (.getfield 9, 3) := by decide +kernel
theorem dX0_becomeAxiom_4 : decode cX0_becomeAxiom 4 = .ok (.iconst 0, 1) := by decide +kernel
theorem dX0_becomeAxiom_5 : decode cX0_becomeAxiom 5 = .ok (.invokestatic 43, 3) := by decide +kernel
theorem dX0_becomeAxiom_8 : decode cX0_becomeAxiom 8 = .ok (.aload_n 0, 1) := by decide +kernel
theorem dX0_becomeAxiom_9 : decode cX0_becomeAxiom 9 = .ok (.getfield 9, 3) := by decide +kernel
theorem dX0_becomeAxiom_12 : decode cX0_becomeAxiom 12 = .ok (.iload_n 1, 1) := by decide +kernel
theorem dX0_becomeAxiom_13 : decode cX0_becomeAxiom 13 = .ok (.iload_n 2, 1) := by decide +kernel
theorem dX0_becomeAxiom_14 : decode cX0_becomeAxiom 14 = .ok (.ifCond .eq 7, 3) := by decide +kernel
theorem dX0_becomeAxiom_17 : decode cX0_becomeAxiom 17 = .ok (.iconst 1, 1) := by decide +kernel
theorem dX0_becomeAxiom_18 : decode cX0_becomeAxiom 18 = .ok (.goto 4, 3) := by decide +kernel
theorem dX0_becomeAxiom_21 : decode cX0_becomeAxiom 21 = .ok (.iconst (-1), 1) := by decide +kernel
theorem dX0_becomeAxiom_22 : decode cX0_becomeAxiom 22 = .ok (.iastore, 1) := by decide +kernel
theorem dX0_becomeAxiom_23 : decode cX0_becomeAxiom 23 = .ok (.aload_n 0, 1) := by decide +kernel
theorem dX0_becomeAxiom_24 : decode cX0_becomeAxiom 24 = .ok (.iconst 0, 1) := by decide +kernel
theorem dX0_becomeAxiom_25 : decode cX0_becomeAxiom 25 = .ok (.putfield 15, 3) := by decide +kernel
theorem dX0_becomeAxiom_28 : decode cX0_becomeAxiom 28 = .ok (.return_, 1) := by decide +kernel
set_option maxRecDepth 20000 in
theorem ggX0_becomeSum_X0_isOpposed : GoodIn wsX0_becomeSum wsX0_isOpposed := goodIn_r _ [14, 2, 22, 23, 24] (by decide +kernel) (by decide +kernel)
set_option maxRecDepth 20000 in
theorem gX0_becomeSum_X0_isOpposed : GoodIn wsX0_becomeSum (wsV RX0 49 RX0 yX0_isOpposed wsX0_isOpposed) := goodIn_app (goodIn_of _ (by decide +kernel)) ggX0_becomeSum_X0_isOpposed
set_option maxRecDepth 20000 in
theorem ggX0_becomeSum_X0_size : GoodIn wsX0_becomeSum wsX0_size := goodIn_r _ [18, 2, 19, 20, 5, 21, 22, 23, 24] (by decide +kernel) (by decide +kernel)
set_option maxRecDepth 20000 in
theorem gX0_becomeSum_X0_size : GoodIn wsX0_becomeSum (wsV RX0 33 RX0 yX0_size wsX0_size) := goodIn_app (goodIn_of _ (by decide +kernel)) ggX0_becomeSum_X0_size
theorem dX0_becomeSum_0 : decode cX0_becomeSum 0 = .ok (.aload_n 1, 1) := by decide +kernel
theorem dX0_becomeSum_1 : decode cX0_becomeSum 1 = .ok (.getfield 15, 3) := by decide +kernel
theorem dX0_becomeSum_4 : decode cX0_becomeSum 4 = .ok (.aload_n 2, 1) := by decide +kernel
theorem dX0_becomeSum_5 : decode cX0_becomeSum 5 = .ok (.getfield 15, 3) := by decide +kernel
theorem dX0_becomeSum_8 : decode cX0_becomeSum 8 = .ok (.iadd, 1) := by decide +kernel
theorem dX0_becomeSum_9 : decode cX0_becomeSum 9 = .ok (.istore_n 3, 1) := by decide +kernel
theorem dX0_becomeSum_10 : decode cX0_becomeSum 10 = .ok (.iconst 0, 1) := by decide +kernel
theorem dX0_becomeSum_11 : decode cX0_becomeSum 11 = .ok (.istore 4, 2) := by decide +kernel
theorem dX0_becomeSum_13 : decode cX0_becomeSum 13 = .ok (.iload 4, 2) := by decide +kernel
theorem dX0_becomeSum_15 : decode cX0_becomeSum 15 = .ok (.bipush 10, 2) := by decide +kernel
theorem dX0_becomeSum_17 : decode cX0_becomeSum 17 = .ok (.if_icmp .ge 59, 3) := by decide +kernel
theorem dX0_becomeSum_20 : decode cX0_becomeSum 20 = .ok (.aload_n 0, 1) := by decide +kernel
theorem dX0_becomeSum_21 : decode cX0_becomeSum 21 = .ok (.getfield 9, 3) := by decide +kernel
theorem dX0_becomeSum_24 : decode cX0_becomeSum 24 = .ok (.iload 4, 2) := by decide +kernel
theorem dX0_becomeSum_26 : decode cX0_becomeSum 26 = .ok (.aload_n 1, 1) := by decide +kernel
theorem dX0_becomeSum_27 : decode cX0_becomeSum 27 = .ok (.getfield 9, 3) := by decide +kernel
theorem dX0_becomeSum_30 : decode cX0_becomeSum 30 = .ok (.iload 4, 2) := by decide +kernel
theorem dX0_becomeSum_32 : decode cX0_becomeSum 32 = .ok (.iaload, 1) := by decide +kernel
theorem dX0_becomeSum_33 : decode cX0_becomeSum 33 = .ok (.aload_n 2, 1) := by decide +kernel
theorem dX0_becomeSum_34 : decode cX0_becomeSum 34 = .ok (.getfield 9, 3) := by decide +kernel
theorem dX0_becomeSum_37 : decode cX0_becomeSum 37 = .ok (.iload 4, 2) := by decide +kernel
theorem dX0_becomeSum_39 : decode cX0_becomeSum 39 = .ok (.iaload, 1) := by decide +kernel
theorem dX0_becomeSum_40 : decode cX0_becomeSum 40 = .ok (.iadd, 1) := by decide +kernel
theorem dX0_becomeSum_41 : decode cX0_becomeSum 41 = .ok (.iastore, 1) := by decide +kernel
theorem dX0_becomeSum_42 : decode cX0_becomeSum 42 = .ok (.aload_n 1, 1) := by decide +kernel
theorem dX0_becomeSum_43 : decode cX0_becomeSum 43 = .ok (.aload_n 2, 1) := by decide +kernel
theorem dX0_becomeSum_44 : decode cX0_becomeSum 44 = .ok (.iload 4, 2) := by decide +kernel
theorem dX0_becomeSum_46 : decode cX0_becomeSum 46 = .ok (.invokevirtual 49, 3) := by decide +kernel
theorem dX0_becomeSum_49 : decode cX0_becomeSum 49 = .ok (.ifCond .eq 21, 3) := by decide +kernel
theorem dX0_becomeSum_52 : decode cX0_becomeSum 52 = .ok (.iload_n 3, 1) := by decide +kernel
theorem dX0_becomeSum_53 : decode cX0_becomeSum 53 = .ok (.aload_n 1, 1) := by decide +kernel
theorem dX0_becomeSum_54 : decode cX0_becomeSum 54 = .ok (.iload 4, 2) := by decide +kernel
theorem dX0_becomeSum_56 : decode cX0_becomeSum 56 = .ok (.invokevirtual 33, 3) := by decide +kernel
theorem dX0_becomeSum_59 : decode cX0_becomeSum 59 = .ok (.aload_n 2, 1) := by decide +kernel
theorem dX0_becomeSum_60 : decode cX0_becomeSum 60 = .ok (.iload 4, 2) := by decide +kernel
theorem dX0_becomeSum_62 : decode cX0_becomeSum 62 = .ok (.invokevirtual 33, 3) := by decide +kernel
theorem dX0_becomeSum_65 : decode cX0_becomeSum 65 = .ok (.invokestatic 53, 3) := by decide +kernel
theorem dX0_becomeSum_68 : decode cX0_becomeSum 68 = .ok (.isub, 1) := by decide +kernel
theorem dX0_becomeSum_69 : decode cX0_becomeSum 69 = .ok (.istore_n 3, 1) := by decide +kernel
theorem dX0_becomeSum_70 : decode cX0_becomeSum 70 = .ok (.iinc 4 1, 3) := by decide +kernel
theorem dX0_becomeSum_73 : decode cX0_becomeSum 73 = .ok (.goto (-60), 3) := by decide +kernel
theorem dX0_becomeSum_76 : decode cX0_becomeSum 76 = .ok (.aload_n 0, 1) := by decide +kernel
theorem dX0_becomeSum_77 : decode cX0_becomeSum 77 = .ok (.iload_n 3, 1) := by decide +kernel
theorem dX0_becomeSum_78 : decode cX0_becomeSum 78 = .ok (.iconst 0, 1) := by decide +kernel
theorem dX0_becomeSum_79 : decode cX0_becomeSum 79 = .ok (.invokestatic 37, 3) := by decide +kernel
theorem dX0_becomeSum_82 : decode cX0_becomeSum 82 = .ok (.putfield 15, 3) := by decide +kernel
theorem dX0_becomeSum_85 : decode cX0_becomeSum 85 = .ok (.return_, 1) := by decide +kernel
theorem dX0_isOpposed_0 : decode cX0_isOpposed 0 = .ok (.aload_n 0, 1) := by decide +kernel
theorem dX0_isOpposed_1 : decode cX0_isOpposed 1 = .ok (.getfield 9, 3) := by decide +kernel
theorem dX0_isOpposed_4 : decode cX0_isOpposed 4 = .ok (.iload_n 2, 1) := by decide +kernel
theorem dX0_isOpposed_5 : decode cX0_isOpposed 5 = .ok (.iaload, 1) := by decide +kernel
theorem dX0_isOpposed_6 : decode cX0_isOpposed 6 = .ok (.ifCond .le 12, 3) := by decide +kernel
theorem dX0_isOpposed_9 : decode cX0_isOpposed 9 = .ok (.aload_n 1, 1) := by decide +kernel
theorem dX0_isOpposed_10 : decode cX0_isOpposed 10 = .ok (.getfield 9, 3) := by decide +kernel
theorem dX0_isOpposed_13 : decode cX0_isOpposed 13 = .ok (.iload_n 2, 1) := by decide +kernel
theorem dX0_isOpposed_14 : decode cX0_isOpposed 14 = .ok (.iaload, 1) := by decide +kernel
theorem dX0_isOpposed_15 : decode cX0_isOpposed 15 = .ok (.ifCond .lt 21, 3) := by decide +kernel
theorem dX0_isOpposed_18 : decode cX0_isOpposed 18 = .ok (.aload_n 0, 1) := by decide +kernel
theorem dX0_isOpposed_19 : decode cX0_isOpposed 19 = .ok (.getfield 9, 3) := by decide +kernel
theorem dX0_isOpposed_22 : decode cX0_isOpposed 22 = .ok (.iload_n 2, 1) := by decide +kernel
theorem dX0_isOpposed_23 : decode cX0_isOpposed 23 = .ok (.iaload, 1) := by decide +kernel
theorem dX0_isOpposed_24 : decode cX0_isOpposed 24 = .ok (.ifCond .ge 16, 3) := by decide +kernel
theorem dX0_isOpposed_27 : decode cX0_isOpposed 27 = .ok (.aload_n 1, 1) := by decide +kernel
theorem dX0_isOpposed_28 : decode cX0_isOpposed 28 = .ok (.getfield 9, 3) := by decide +kernel
theorem dX0_isOpposed_31 : decode cX0_isOpposed 31 = .ok (.iload_n 2, 1) := by decide +kernel
theorem dX0_isOpposed_32 : decode cX0_isOpposed 32 = .ok (.iaload, 1) := by decide +kernel
theorem dX0_isOpposed_33 : decode cX0_isOpposed 33 = .ok (.ifCond .le 7, 3) := by decide +kernel
theorem dX0_isOpposed_36 : decode cX0_isOpposed 36 = .ok (.iconst 1, 1) := by decide +kernel
theorem dX0_isOpposed_37 : decode cX0_isOpposed 37 = .ok (.goto 4, 3) := by decide +kernel
theorem dX0_isOpposed_40 : decode cX0_isOpposed 40 = .ok (.iconst 0, 1) := by decide +kernel
theorem dX0_isOpposed_41 : decode cX0_isOpposed 41 = .ok (.ireturn, 1) := by decide +kernel
theorem dX0_becomeMultiple_0 : decode cX0_becomeMultiple 0 = .ok (.iconst 0, 1) := by decide +kernel
theorem dX0_becomeMultiple_1 : decode cX0_becomeMultiple 1 = .ok (.istore_n 3, 1) := by decide +kernel
theorem dX0_becomeMultiple_2 : decode cX0_becomeMultiple 2 = .ok (.iload_n 3, 1) := by decide +kernel
theorem dX0_becomeMultiple_3 : decode cX0_becomeMultiple 3 = .ok (.bipush 10, 2) := by decide +kernel
theorem dX0_becomeMultiple_5 : decode cX0_becomeMultiple 5 = .ok (.if_icmp .ge 23, 3) := by decide +kernel
theorem dX0_becomeMultiple_8 : decode cX0_becomeMultiple 8 = .ok (.aload_n 0, 1) := by decide +kernel
theorem dX0_becomeMultiple_9 : decode cX0_becomeMultiple 9 = .ok (.getfield 9, 3) := by decide +kernel
theorem dX0_becomeMultiple_12 : decode cX0_becomeMultiple 12 = .ok (.iload_n 3, 1) := by decide +kernel
theorem dX0_becomeMultiple_13 : decode cX0_becomeMultiple 13 = .ok (.iload_n 2, 1) := by decide +kernel
theorem dX0_becomeMultiple_14 : decode cX0_becomeMultiple 14 = .ok (.aload_n 1, 1) := by decide +kernel
theorem dX0_becomeMultiple_15 : decode cX0_becomeMultiple 15 = .ok (.getfield 9, 3) := by decide +kernel
theorem dX0_becomeMultiple_18 : decode cX0_becomeMultiple 18 = .ok (.iload_n 3, 1) := by decide +kernel
theorem dX0_becomeMultiple_19 : decode cX0_becomeMultiple 19 = .ok (.iaload, 1) := by decide +kernel
theorem dX0_becomeMultiple_20 : decode cX0_becomeMultiple 20 = .ok (.imul, 1) := by decide +kernel
theorem dX0_becomeMultiple_21 : decode cX0_becomeMultiple 21 = .ok (.iastore, 1) := by decide +kernel
theorem dX0_becomeMultiple_22 : decode cX0_becomeMultiple 22 = .ok (.iinc 3 1, 3) := by decide +kernel
theorem dX0_becomeMultiple_25 : decode cX0_becomeMultiple 25 = .ok (.goto (-23), 3) := by decide +kernel
theorem dX0_becomeMultiple_28 : decode cX0_becomeMultiple 28 = .ok (.aload_n 0, 1) := by decide +kernel
theorem dX0_becomeMultiple_29 : decode cX0_becomeMultiple 29 = .ok (.iload_n 2, 1) := by decide +kernel
theorem dX0_becomeMultiple_30 : decode cX0_becomeMultiple 30 = .ok (.aload_n 1, 1) := by decide +kernel
theorem dX0_becomeMultiple_31 : decode cX0_becomeMultiple 31 = .ok (.getfield 15, 3) := by decide +kernel
theorem dX0_becomeMultiple_34 : decode cX0_becomeMultiple 34 = .ok (.imul, 1) := by decide +kernel
theorem dX0_becomeMultiple_35 : decode cX0_becomeMultiple 35 = .ok (.putfield 15, 3) := by decide +kernel
theorem dX0_becomeMultiple_38 : decode cX0_becomeMultiple 38 = .ok (.return_, 1) := by decide +kernel
set_option maxRecDepth 20000 in
theorem ggX0_divideRoundingUp_X0_size : GoodIn wsX0_divideRoundingUp wsX0_size := goodIn_r _ [6, 7, 8, 9, 10, 11, 19, 20, 21] (by decide +kernel) (by decide +kernel)
set_option maxRecDepth 20000 in
theorem gX0_divideRoundingUp_X0_size : GoodIn wsX0_divideRoundingUp (wsV RX0 33 RX0 yX0_size wsX0_size) := goodIn_app (goodIn_of _ (by decide +kernel)) ggX0_divideRoundingUp_X0_size
set_option maxRecDepth 20000 in
theorem ggX0_divideRoundingUp_X0_quotientRoundedUp : GoodIn wsX0_divideRoundingUp wsX0_quotientRoundedUp := goodIn_r _ [14] (by decide +kernel) (by decide +kernel)
set_option maxRecDepth 20000 in
theorem gX0_divideRoundingUp_X0_quotientRoundedUp : GoodIn wsX0_divideRoundingUp (va_wsS RX0 56 yX0_quotientRoundedUp wsX0_quotientRoundedUp) := goodIn_app (goodIn_of _ (by decide +kernel)) ggX0_divideRoundingUp_X0_quotientRoundedUp
set_option maxRecDepth 20000 in
theorem ggX0_divideRoundingUp_X0_resize : GoodIn wsX0_divideRoundingUp wsX0_resize := goodIn_r _ [18, 7, 19, 20, 21] (by decide +kernel) (by decide +kernel)
set_option maxRecDepth 20000 in
theorem gX0_divideRoundingUp_X0_resize : GoodIn wsX0_divideRoundingUp (wsV RX0 59 RX0 yX0_resize wsX0_resize) := goodIn_app (goodIn_of _ (by decide +kernel)) ggX0_divideRoundingUp_X0_resize
theorem dX0_divideRoundingUp_0 : decode cX0_divideRoundingUp 0 = .ok (.iconst 0, 1) := by decide +kernel
theorem dX0_divideRoundingUp_1 : decode cX0_divideRoundingUp 1 = .ok (.istore_n 2, 1) := by decide +kernel
theorem dX0_divideRoundingUp_2 : decode cX0_divideRoundingUp 2 = .ok (.iload_n 2, 1) := by decide +kernel
theorem dX0_divideRoundingUp_3 : decode cX0_divideRoundingUp 3 = .ok (.bipush 10, 2) := by decide +kernel
theorem dX0_divideRoundingUp_5 : decode cX0_divideRoundingUp 5 = .ok (.if_icmp .ge 23, 3) := by decide +kernel
theorem dX0_divideRoundingUp_8 : decode cX0_divideRoundingUp 8 = .ok (.aload_n 0, 1) := by decide +kernel
theorem dX0_divideRoundingUp_9 : decode cX0_divideRoundingUp 9 = .ok (.iload_n 2, 1) := by decide +kernel
theorem dX0_divideRoundingUp_10 : decode cX0_divideRoundingUp 10 = .ok (.aload_n 0, 1) := by decide +kernel
theorem dX0_divideRoundingUp_11 : decode cX0_divideRoundingUp 11 = .ok (.iload_n 2, 1) := by decide +kernel
theorem dX0_divideRoundingUp_12 : decode cX0_divideRoundingUp 12 = .ok (.invokevirtual 33, 3) := by decide +kernel
theorem dX0_divideRoundingUp_15 : decode cX0_divideRoundingUp 15 = .ok (.iload_n 1, 1) := by decide +kernel
theorem dX0_divideRoundingUp_16 : decode cX0_divideRoundingUp 16 = .ok (.invokestatic 56, 3) := by decide +kernel
theorem dX0_divideRoundingUp_19 : decode cX0_divideRoundingUp 19 = .ok (.invokevirtual 59, 3) := by decide +kernel
theorem dX0_divideRoundingUp_22 : decode cX0_divideRoundingUp 22 = .ok (.iinc 2 1, 3) := by decide +kernel
theorem dX0_divideRoundingUp_25 : decode cX0_divideRoundingUp 25 = .ok (.goto (-23), 3) := by decide +kernel
theorem dX0_divideRoundingUp_28 : decode cX0_divideRoundingUp 28 = .ok (.aload_n 0, 1) := by decide +kernel
theorem dX0_divideRoundingUp_29 : decode cX0_divideRoundingUp 29 = .ok (.aload_n 0, 1) := by decide +kernel
theorem dX0_divideRoundingUp_30 : decode cX0_divideRoundingUp 30 = .ok (.getfield 15, 3) := by decide +kernel
theorem dX0_divideRoundingUp_33 : decode cX0_divideRoundingUp 33 = .ok (.iload_n 1, 1) := by decide +kernel
theorem dX0_divideRoundingUp_34 : decode cX0_divideRoundingUp 34 = .ok (.invokestatic 56, 3) := by decide +kernel
theorem dX0_divideRoundingUp_37 : decode cX0_divideRoundingUp 37 = .ok (.putfield 15, 3) := by decide +kernel
theorem dX0_divideRoundingUp_40 : decode cX0_divideRoundingUp 40 = .ok (.return_, 1) := by decide +kernel
theorem dX0_quotientRoundedUp_0 : decode cX0_quotientRoundedUp 0 = .ok (.iload_n 0, 1) := by decide +kernel
theorem dX0_quotientRoundedUp_1 : decode cX0_quotientRoundedUp 1 = .ok (.iload_n 1, 1) := by decide +kernel
theorem dX0_quotientRoundedUp_2 : decode cX0_quotientRoundedUp 2 = .ok (.iadd, 1) := by decide +kernel
theorem dX0_quotientRoundedUp_3 : decode cX0_quotientRoundedUp 3 = .ok (.iconst 1, 1) := by decide +kernel
theorem dX0_quotientRoundedUp_4 : decode cX0_quotientRoundedUp 4 = .ok (.isub, 1) := by decide +kernel
theorem dX0_quotientRoundedUp_5 : decode cX0_quotientRoundedUp 5 = .ok (.iload_n 1, 1) := by decide +kernel
theorem dX0_quotientRoundedUp_6 : decode cX0_quotientRoundedUp 6 = .ok (.idiv, 1) := by decide +kernel
theorem dX0_quotientRoundedUp_7 : decode cX0_quotientRoundedUp 7 = .ok (.ireturn, 1) := by decide +kernel
set_option maxRecDepth 20000 in
theorem ggX0_limitSizesToDegree_X0_size : GoodIn wsX0_limitSizesToDegree wsX0_size := goodIn_r _ [10, 11, 12, 13, 4, 14, 19, 20, 21] (by decide +kernel) (by decide +kernel)
set_option maxRecDepth 20000 in
theorem gX0_limitSizesToDegree_X0_size : GoodIn wsX0_limitSizesToDegree (wsV RX0 33 RX0 yX0_size wsX0_size) := goodIn_app (goodIn_of _ (by decide +kernel)) ggX0_limitSizesToDegree_X0_size
set_option maxRecDepth 20000 in
theorem ggX0_limitSizesToDegree_X0_resize : GoodIn wsX0_limitSizesToDegree wsX0_resize := goodIn_r _ [18, 11, 19, 20, 21] (by decide +kernel) (by decide +kernel)
set_option maxRecDepth 20000 in
theorem gX0_limitSizesToDegree_X0_resize : GoodIn wsX0_limitSizesToDegree (wsV RX0 59 RX0 yX0_resize wsX0_resize) := goodIn_app (goodIn_of _ (by decide +kernel)) ggX0_limitSizesToDegree_X0_resize
theorem dX0_limitSizesToDegree_0 : decode cX0_limitSizesToDegree 0 = .ok (.iconst 0, 1) := by decide +kernel
theorem dX0_limitSizesToDegree_1 : decode cX0_limitSizesToDegree 1 = .ok (.istore_n 1, 1) := by decide +kernel
theorem dX0_limitSizesToDegree_2 : decode cX0_limitSizesToDegree 2 = .ok (.iload_n 1, 1) := by decide +kernel
theorem dX0_limitSizesToDegree_3 : decode cX0_limitSizesToDegree 3 = .ok (.bipush 10, 2) := by decide +kernel
theorem dX0_limitSizesToDegree_5 : decode cX0_limitSizesToDegree 5 = .ok (.if_icmp .ge 26, 3) := by decide +kernel
theorem dX0_limitSizesToDegree_8 : decode cX0_limitSizesToDegree 8 = .ok (.aload_n 0, 1) := by decide +kernel
theorem dX0_limitSizesToDegree_9 : decode cX0_limitSizesToDegree 9 = .ok (.iload_n 1, 1) := by decide +kernel
theorem dX0_limitSizesToDegree_10 : decode cX0_limitSizesToDegree 10 = .ok (.aload_n 0, 1) := by decide +kernel
theorem dX0_limitSizesToDegree_11 : decode cX0_limitSizesToDegree 11 = .ok (.iload_n 1, 1) := by decide +kernel
theorem dX0_limitSizesToDegree_12 : decode cX0_limitSizesToDegree 12 = .ok (.invokevirtual 33, 3) := by decide +kernel
theorem dX0_limitSizesToDegree_15 : decode cX0_limitSizesToDegree 15 = .ok (.aload_n 0, 1) := by decide +kernel
theorem dX0_limitSizesToDegree_16 : decode cX0_limitSizesToDegree 16 = .ok (.getfield 15, 3) := by decide +kernel
theorem dX0_limitSizesToDegree_19 : decode cX0_limitSizesToDegree 19 = .ok (.invokestatic 53, 3) := by decide +kernel
theorem dX0_limitSizesToDegree_22 : decode cX0_limitSizesToDegree 22 = .ok (.invokevirtual 59, 3) := by decide +kernel
theorem dX0_limitSizesToDegree_25 : decode cX0_limitSizesToDegree 25 = .ok (.iinc 1 1, 3) := by decide +kernel
theorem dX0_limitSizesToDegree_28 : decode cX0_limitSizesToDegree 28 = .ok (.goto (-26), 3) := by decide +kernel
theorem dX0_limitSizesToDegree_31 : decode cX0_limitSizesToDegree 31 = .ok (.return_, 1) := by decide +kernel
set_option maxRecDepth 20000 in
theorem ggX0_giveUp_X0_size : GoodIn wsX0_giveUp wsX0_size := goodIn_r _ [11, 6, 12, 13, 4, 14, 15, 16, 17] (by decide +kernel) (by decide +kernel)
set_option maxRecDepth 20000 in
theorem gX0_giveUp_X0_size : GoodIn wsX0_giveUp (wsV RX0 33 RX0 yX0_size wsX0_size) := goodIn_app (goodIn_of _ (by decide +kernel)) ggX0_giveUp_X0_size
theorem dX0_giveUp_0 : decode cX0_giveUp 0 = .ok (.aload_n 0, 1) := by decide +kernel
theorem dX0_giveUp_1 : decode cX0_giveUp 1 = .ok (.aload_n 0, 1) := by decide +kernel
theorem dX0_giveUp_2 : decode cX0_giveUp 2 = .ok (.getfield 15, 3) := by decide +kernel
theorem dX0_giveUp_5 : decode cX0_giveUp 5 = .ok (.aload_n 0, 1) := by decide +kernel
theorem dX0_giveUp_6 : decode cX0_giveUp 6 = .ok (.iload_n 1, 1) := by decide +kernel
theorem dX0_giveUp_7 : decode cX0_giveUp 7 = .ok (.invokevirtual 33, 3) := by decide +kernel
theorem dX0_giveUp_10 : decode cX0_giveUp 10 = .ok (.isub, 1) := by decide +kernel
theorem dX0_giveUp_11 : decode cX0_giveUp 11 = .ok (.iconst 0, 1) := by decide +kernel
theorem dX0_giveUp_12 : decode cX0_giveUp 12 = .ok (.invokestatic 37, 3) := by decide +kernel
theorem dX0_giveUp_15 : decode cX0_giveUp 15 = .ok (.putfield 15, 3) := by decide +kernel
theorem dX0_giveUp_18 : decode cX0_giveUp 18 = .ok (.aload_n 0, 1) := by decide +kernel
theorem dX0_giveUp_19 : decode cX0_giveUp 19 = .ok (.getfield 9, 3) := by decide +kernel
theorem dX0_giveUp_22 : decode cX0_giveUp 22 = .ok (.iload_n 1, 1) := by decide +kernel
theorem dX0_giveUp_23 : decode cX0_giveUp 23 = .ok (.iconst 0, 1) := by decide +kernel
theorem dX0_giveUp_24 : decode cX0_giveUp 24 = .ok (.iastore, 1) := by decide +kernel
theorem dX0_giveUp_25 : decode cX0_giveUp 25 = .ok (.return_, 1) := by decide +kernel
set_option maxRecDepth 20000 in
theorem ggX0_turnToContrary_X0_sizeOfAll : GoodIn wsX0_turnToContrary wsX0_sizeOfAll := goodIn_r _ [11, 12, 13, 14, 10, 15, 6, 16, 17, 4, 18, 19, 20, 21] (by decide +kernel) (by decide +kernel)
set_option maxRecDepth 20000 in
theorem gX0_turnToContrary_X0_sizeOfAll : GoodIn wsX0_turnToContrary (wsV RX0 63 RX0 yX0_sizeOfAll wsX0_sizeOfAll) := goodIn_app (goodIn_of _ (by decide +kernel)) ggX0_turnToContrary_X0_sizeOfAll
theorem dX0_turnToContrary_0 : decode cX0_turnToContrary 0 = .ok (.aload_n 0, 1) := by decide +kernel
theorem dX0_turnToContrary_1 : decode cX0_turnToContrary 1 = .ok (.aload_n 0, 1) := by decide +kernel
theorem dX0_turnToContrary_2 : decode cX0_turnToContrary 2 = .ok (.invokevirtual 63, 3) := by decide +kernel
theorem dX0_turnToContrary_5 : decode cX0_turnToContrary 5 = .ok (.iconst 1, 1) := by decide +kernel
theorem dX0_turnToContrary_6 : decode cX0_turnToContrary 6 = .ok (.iadd, 1) := by decide +kernel
theorem dX0_turnToContrary_7 : decode cX0_turnToContrary 7 = .ok (.aload_n 0, 1) := by decide +kernel
theorem dX0_turnToContrary_8 : decode cX0_turnToContrary 8 = .ok (.getfield 15, 3) := by decide +kernel
theorem dX0_turnToContrary_11 : decode cX0_turnToContrary 11 = .ok (.isub, 1) := by decide +kernel
theorem dX0_turnToContrary_12 : decode cX0_turnToContrary 12 = .ok (.iconst 0, 1) := by decide +kernel
theorem dX0_turnToContrary_13 : decode cX0_turnToContrary 13 = .ok (.invokestatic 37, 3) := by decide +kernel
theorem dX0_turnToContrary_16 : decode cX0_turnToContrary 16 = .ok (.putfield 15, 3) := by decide +kernel
theorem dX0_turnToContrary_19 : decode cX0_turnToContrary 19 = .ok (.iconst 0, 1) := by decide +kernel
theorem dX0_turnToContrary_20 : decode cX0_turnToContrary 20 = .ok (.istore_n 1, 1) := by decide +kernel
theorem dX0_turnToContrary_21 : decode cX0_turnToContrary 21 = .ok (.iload_n 1, 1) := by decide +kernel
theorem dX0_turnToContrary_22 : decode cX0_turnToContrary 22 = .ok (.bipush 10, 2) := by decide +kernel
theorem dX0_turnToContrary_24 : decode cX0_turnToContrary 24 = .ok (.if_icmp .ge 22, 3) := by decide +kernel
theorem dX0_turnToContrary_27 : decode cX0_turnToContrary 27 = .ok (.aload_n 0, 1) := by decide +kernel
theorem dX0_turnToContrary_28 : decode cX0_turnToContrary 28 = .ok (.getfield 9, 3) := by decide +kernel
theorem dX0_turnToContrary_31 : decode cX0_turnToContrary 31 = .ok (.iload_n 1, 1) := by decide +kernel
theorem dX0_turnToContrary_32 : decode cX0_turnToContrary 32 = .ok (.aload_n 0, 1) := by decide +kernel
theorem dX0_turnToContrary_33 : decode cX0_turnToContrary 33 = .ok (.getfield 9, 3) := by decide +kernel
theorem dX0_turnToContrary_36 : decode cX0_turnToContrary 36 = .ok (.iload_n 1, 1) := by decide +kernel
theorem dX0_turnToContrary_37 : decode cX0_turnToContrary 37 = .ok (.iaload, 1) := by decide +kernel
theorem dX0_turnToContrary_38 : decode cX0_turnToContrary 38 = .ok (.ineg, 1) := by decide +kernel
theorem dX0_turnToContrary_39 : decode cX0_turnToContrary 39 = .ok (.iastore, 1) := by decide +kernel
theorem dX0_turnToContrary_40 : decode cX0_turnToContrary 40 = .ok (.iinc 1 1, 3) := by decide +kernel
theorem dX0_turnToContrary_43 : decode cX0_turnToContrary 43 = .ok (.goto (-22), 3) := by decide +kernel
theorem dX0_turnToContrary_46 : decode cX0_turnToContrary 46 = .ok (.return_, 1) := by decide +kernel
theorem dX0_size_0 : decode cX0_size 0 = .ok (.aload_n 0, 1) := by decide +kernel
theorem dX0_size_1 : decode cX0_size 1 = .ok (.getfield 9, 3) := by decide +kernel
theorem dX0_size_4 : decode cX0_size 4 = .ok (.iload_n 1, 1) := by decide +kernel
theorem dX0_size_5 : decode cX0_size 5 = .ok (.iaload, 1) := by decide +kernel
theorem dX0_size_6 : decode cX0_size 6 = .ok (.invokestatic 67, 3) := by decide +kernel
theorem dX0_size_9 : decode cX0_size 9 = .ok (.ireturn, 1) := by decide +kernel
theorem dX0_resize_0 : decode cX0_resize 0 = .ok (.aload_n 0, 1) := by decide +kernel
theorem dX0_resize_1 : decode cX0_resize 1 = .ok (.getfield 9, 3) := by decide +kernel
theorem dX0_resize_4 : decode cX0_resize 4 = .ok (.iload_n 1, 1) := by decide +kernel
theorem dX0_resize_5 : decode cX0_resize 5 = .ok (.aload_n 0, 1) := by decide +kernel
theorem dX0_resize_6 : decode cX0_resize 6 = .ok (.getfield 9, 3) := by decide +kernel
theorem dX0_resize_9 : decode cX0_resize 9 = .ok (.iload_n 1, 1) := by decide +kernel
theorem dX0_resize_10 : decode cX0_resize 10 = .ok (.iaload, 1) := by decide +kernel
theorem dX0_resize_11 : decode cX0_resize 11 = .ok (.ifCond .ge 8, 3) := by decide +kernel
theorem dX0_resize_14 : decode cX0_resize 14 = .ok (.iload_n 2, 1) := by decide +kernel
theorem dX0_resize_15 : decode cX0_resize 15 = .ok (.ineg, 1) := by decide +kernel
theorem dX0_resize_16 : decode cX0_resize 16 = .ok (.goto 4, 3) := by decide +kernel
theorem dX0_resize_19 : decode cX0_resize 19 = .ok (.iload_n 2, 1) := by decide +kernel
theorem dX0_resize_20 : decode cX0_resize 20 = .ok (.iastore, 1) := by decide +kernel
theorem dX0_resize_21 : decode cX0_resize 21 = .ok (.return_, 1) := by decide +kernel
set_option maxRecDepth 20000 in
theorem ggX0_sizeOfAll_X0_size : GoodIn wsX0_sizeOfAll wsX0_size := goodIn_r _ [5, 6, 7, 8, 9, 10, 11, 12, 13] (by decide +kernel) (by decide +kernel)
set_option maxRecDepth 20000 in
theorem gX0_sizeOfAll_X0_size : GoodIn wsX0_sizeOfAll (wsV RX0 33 RX0 yX0_size wsX0_size) := goodIn_app (goodIn_of _ (by decide +kernel)) ggX0_sizeOfAll_X0_size
theorem dX0_sizeOfAll_0 : decode cX0_sizeOfAll 0 = .ok (.iconst 0, 1) := by decide +kernel
theorem dX0_sizeOfAll_1 : decode cX0_sizeOfAll 1 = .ok (.istore_n 1, 1) := by decide +kernel
theorem dX0_sizeOfAll_2 : decode cX0_sizeOfAll 2 = .ok (.iconst 0, 1) := by decide +kernel
theorem dX0_sizeOfAll_3 : decode cX0_sizeOfAll 3 = .ok (.istore_n 2, 1) := by decide +kernel
theorem dX0_sizeOfAll_4 : decode cX0_sizeOfAll 4 = .ok (.iload_n 2, 1) := by decide +kernel
theorem dX0_sizeOfAll_5 : decode cX0_sizeOfAll 5 = .ok (.bipush 10, 2) := by decide +kernel
theorem dX0_sizeOfAll_7 : decode cX0_sizeOfAll 7 = .ok (.if_icmp .ge 17, 3) := by decide +kernel
theorem dX0_sizeOfAll_10 : decode cX0_sizeOfAll 10 = .ok (.iload_n 1, 1) := by decide +kernel
theorem dX0_sizeOfAll_11 : decode cX0_sizeOfAll 11 = .ok (.aload_n 0, 1) := by decide +kernel
theorem dX0_sizeOfAll_12 : decode cX0_sizeOfAll 12 = .ok (.iload_n 2, 1) := by decide +kernel
theorem dX0_sizeOfAll_13 : decode cX0_sizeOfAll 13 = .ok (.invokevirtual 33, 3) := by decide +kernel
theorem dX0_sizeOfAll_16 : decode cX0_sizeOfAll 16 = .ok (.iadd, 1) := by decide +kernel
theorem dX0_sizeOfAll_17 : decode cX0_sizeOfAll 17 = .ok (.istore_n 1, 1) := by decide +kernel
theorem dX0_sizeOfAll_18 : decode cX0_sizeOfAll 18 = .ok (.iinc 2 1, 3) := by decide +kernel
theorem dX0_sizeOfAll_21 : decode cX0_sizeOfAll 21 = .ok (.goto (-17), 3) := by decide +kernel
theorem dX0_sizeOfAll_24 : decode cX0_sizeOfAll 24 = .ok (.iload_n 1, 1) := by decide +kernel
theorem dX0_sizeOfAll_25 : decode cX0_sizeOfAll 25 = .ok (.ireturn, 1) := by decide +kernel
theorem dX0_weightOrDegree_0 : decode cX0_weightOrDegree 0 = .ok (.iload_n 1, 1) := by decide +kernel
theorem dX0_weightOrDegree_1 : decode cX0_weightOrDegree 1 = .ok (.iconst (-1), 1) := by decide +kernel
theorem dX0_weightOrDegree_2 : decode cX0_weightOrDegree 2 = .ok (.if_icmp .ne 10, 3) := by decide +kernel
theorem dX0_weightOrDegree_5 : decode cX0_weightOrDegree 5 = .ok (.aload_n 0, 1) := by decide +kernel
theorem dX0_weightOrDegree_6 : decode cX0_weightOrDegree 6 = .ok (.getfield 15, 3) := by decide +kernel
theorem dX0_weightOrDegree_9 : decode cX0_weightOrDegree 9 = .ok (.goto 9, 3) := by decide +kernel
theorem dX0_weightOrDegree_12 : decode cX0_weightOrDegree 12 = .ok (.aload_n 0, 1) := by decide +kernel
theorem dX0_weightOrDegree_13 : decode cX0_weightOrDegree 13 = .ok (.getfield 9, 3) := by decide +kernel
theorem dX0_weightOrDegree_16 : decode cX0_weightOrDegree 16 = .ok (.iload_n 1, 1) := by decide +kernel
theorem dX0_weightOrDegree_17 : decode cX0_weightOrDegree 17 = .ok (.iaload, 1) := by decide +kernel
theorem dX0_weightOrDegree_18 : decode cX0_weightOrDegree 18 = .ok (.ireturn, 1) := by decide +kernel
set_option maxRecDepth 20000 in
theorem ggX0_isTooLarge_X0_size : GoodIn wsX0_isTooLarge wsX0_size := goodIn_r _ [7, 8, 9, 10, 11, 12, 13, 14, 15] (by decide +kernel) (by decide +kernel)
set_option maxRecDepth 20000 in
theorem gX0_isTooLarge_X0_size : GoodIn wsX0_isTooLarge (wsV RX0 33 RX0 yX0_size wsX0_size) := goodIn_app (goodIn_of _ (by decide +kernel)) ggX0_isTooLarge_X0_size
theorem dX0_isTooLarge_0 : decode cX0_isTooLarge 0 = .ok (.iconst 0, 1) := by decide +kernel
theorem dX0_isTooLarge_1 : decode cX0_isTooLarge 1 = .ok (.istore_n 1, 1) := by decide +kernel
theorem dX0_isTooLarge_2 : decode cX0_isTooLarge 2 = .ok (.iload_n 1, 1) := by decide +kernel
theorem dX0_isTooLarge_3 : decode cX0_isTooLarge 3 = .ok (.bipush 10, 2) := by decide +kernel
theorem dX0_isTooLarge_5 : decode cX0_isTooLarge 5 = .ok (.if_icmp .ge 21, 3) := by decide +kernel
theorem dX0_isTooLarge_8 : decode cX0_isTooLarge 8 = .ok (.aload_n 0, 1) := by decide +kernel
theorem dX0_isTooLarge_9 : decode cX0_isTooLarge 9 = .ok (.iload_n 1, 1) := by decide +kernel
theorem dX0_isTooLarge_10 : decode cX0_isTooLarge 10 = .ok (.invokevirtual 33, 3) := by decide +kernel
theorem dX0_isTooLarge_13 : decode cX0_isTooLarge 13 = .ok (.ldc 70, 2) := by decide +kernel
theorem dX0_isTooLarge_15 : decode cX0_isTooLarge 15 = .ok (.if_icmp .le 5, 3) := by decide +kernel
theorem dX0_isTooLarge_18 : decode cX0_isTooLarge 18 = .ok (.iconst 1, 1) := by decide +kernel
theorem dX0_isTooLarge_19 : decode cX0_isTooLarge 19 = .ok (.ireturn, 1) := by decide +kernel
theorem dX0_isTooLarge_20 : decode cX0_isTooLarge 20 = .ok (.iinc 1 1, 3) := by decide +kernel
theorem dX0_isTooLarge_23 : decode cX0_isTooLarge 23 = .ok (.goto (-21), 3) := by decide +kernel
theorem dX0_isTooLarge_26 : decode cX0_isTooLarge 26 = .ok (.aload_n 0, 1) := by decide +kernel
theorem dX0_isTooLarge_27 : decode cX0_isTooLarge 27 = .ok (.getfield 15, 3) := by decide +kernel
theorem dX0_isTooLarge_30 : decode cX0_isTooLarge 30 = .ok (.ldc 70, 2) := by decide +kernel
theorem dX0_isTooLarge_32 : decode cX0_isTooLarge 32 = .ok (.if_icmp .le 7, 3) := by decide +kernel
theorem dX0_isTooLarge_35 : decode cX0_isTooLarge 35 = .ok (.iconst 1, 1) := by decide +kernel
theorem dX0_isTooLarge_36 : decode cX0_isTooLarge 36 = .ok (.goto 4, 3) := by decide +kernel
theorem dX0_isTooLarge_39 : decode cX0_isTooLarge 39 = .ok (.iconst 0, 1) := by decide +kernel
theorem dX0_isTooLarge_40 : decode cX0_isTooLarge 40 = .ok (.ireturn, 1) := by decide +kernel
set_option maxRecDepth 20000 in
theorem ggX0_isVoid_X0_sizeOfAll : GoodIn wsX0_isVoid wsX0_sizeOfAll := goodIn_r _ [6, 7, 8, 9, 5, 10, 11, 12, 13, 14, 15, 16, 17, 18] (by decide +kernel) (by decide +kernel)
set_option maxRecDepth 20000 in
theorem gX0_isVoid_X0_sizeOfAll : GoodIn wsX0_isVoid (wsV RX0 63 RX0 yX0_sizeOfAll wsX0_sizeOfAll) := goodIn_app (goodIn_of _ (by decide +kernel)) ggX0_isVoid_X0_sizeOfAll
theorem dX0_isVoid_0 : decode cX0_isVoid 0 = .ok (.aload_n 0, 1) := by decide +kernel
theorem dX0_isVoid_1 : decode cX0_isVoid 1 = .ok (.invokevirtual 63, 3) := by decide +kernel
theorem dX0_isVoid_4 : decode cX0_isVoid 4 = .ok (.aload_n 0, 1) := by decide +kernel
theorem dX0_isVoid_5 : decode cX0_isVoid 5 = .ok (.getfield 15, 3) := by decide +kernel
theorem dX0_isVoid_8 : decode cX0_isVoid 8 = .ok (.if_icmp .ge 7, 3) := by decide +kernel
theorem dX0_isVoid_11 : decode cX0_isVoid 11 = .ok (.iconst 1, 1) := by decide +kernel
theorem dX0_isVoid_12 : decode cX0_isVoid 12 = .ok (.goto 4, 3) := by decide +kernel
theorem dX0_isVoid_15 : decode cX0_isVoid 15 = .ok (.iconst 0, 1) := by decide +kernel
theorem dX0_isVoid_16 : decode cX0_isVoid 16 = .ok (.ireturn, 1) := by decide +kernel
set_option maxRecDepth 20000 in
theorem ggX0_isMetBy_X0_slack : GoodIn wsX0_isMetBy wsX0_slack := goodIn_r _ [5, 6, 7, 8, 9, 10, 11, 12, 4, 13, 14, 15, 16, 17, 18, 19, 20, 21, 22, 23, 24, 25] (by decide +kernel) (by decide +kernel)
set_option maxRecDepth 20000 in
theorem gX0_isMetBy_X0_slack : GoodIn wsX0_isMetBy (wsV RX0 71 RX0 yX0_slack wsX0_slack) := goodIn_app (goodIn_of _ (by decide +kernel)) ggX0_isMetBy_X0_slack
theorem dX0_isMetBy_0 : decode cX0_isMetBy 0 = .ok (.aload_n 0, 1) := by decide +kernel
theorem dX0_isMetBy_1 : decode cX0_isMetBy 1 = .ok (.sipush 1023, 3) := by decide +kernel
theorem dX0_isMetBy_4 : decode cX0_isMetBy 4 = .ok (.iload_n 1, 1) := by decide +kernel
theorem dX0_isMetBy_5 : decode cX0_isMetBy 5 = .ok (.invokevirtual 71, 3) := by decide +kernel
theorem dX0_isMetBy_8 : decode cX0_isMetBy 8 = .ok (.ifCond .lt 7, 3) := by decide +kernel
theorem dX0_isMetBy_11 : decode cX0_isMetBy 11 = .ok (.iconst 1, 1) := by decide +kernel
theorem dX0_isMetBy_12 : decode cX0_isMetBy 12 = .ok (.goto 4, 3) := by decide +kernel
theorem dX0_isMetBy_15 : decode cX0_isMetBy 15 = .ok (.iconst 0, 1) := by decide +kernel
theorem dX0_isMetBy_16 : decode cX0_isMetBy 16 = .ok (.ireturn, 1) := by decide +kernel
set_option maxRecDepth 20000 in
theorem ggX0_slack_X1_bit : GoodIn wsX0_slack wsX1_bit := goodIn_r _ [4] (by decide +kernel) (by decide +kernel)
set_option maxRecDepth 20000 in
theorem gX0_slack_X1_bit_n74 : GoodIn wsX0_slack (wsX1_bit) := ggX0_slack_X1_bit
set_option maxRecDepth 20000 in
theorem ggX0_slack_X0_countedTruth : GoodIn wsX0_slack wsX0_countedTruth := goodIn_r _ [9, 10, 19, 20, 21] (by decide +kernel) (by decide +kernel)
set_option maxRecDepth 20000 in
theorem gX0_slack_X0_countedTruth : GoodIn wsX0_slack (wsV RX0 77 RX0 yX0_countedTruth wsX0_countedTruth) := goodIn_app (goodIn_of _ (by decide +kernel)) ggX0_slack_X0_countedTruth
set_option maxRecDepth 20000 in
theorem ggX0_slack_X0_size : GoodIn wsX0_slack wsX0_size := goodIn_r _ [14, 10, 15, 16, 17, 18, 19, 20, 21] (by decide +kernel) (by decide +kernel)
set_option maxRecDepth 20000 in
theorem gX0_slack_X0_size : GoodIn wsX0_slack (wsV RX0 33 RX0 yX0_size wsX0_size) := goodIn_app (goodIn_of _ (by decide +kernel)) ggX0_slack_X0_size
theorem dX0_slack_0 : decode cX0_slack 0 = .ok (.aload_n 0, 1) := by decide +kernel
theorem dX0_slack_1 : decode cX0_slack 1 = .ok (.getfield 15, 3) := by decide +kernel
theorem dX0_slack_4 : decode cX0_slack 4 = .ok (.ineg, 1) := by decide +kernel
theorem dX0_slack_5 : decode cX0_slack 5 = .ok (.istore_n 3, 1) := by decide +kernel
theorem dX0_slack_6 : decode cX0_slack 6 = .ok (.iconst 0, 1) := by decide +kernel
theorem dX0_slack_7 : decode cX0_slack 7 = .ok (.istore 4, 2) := by decide +kernel
theorem dX0_slack_9 : decode cX0_slack 9 = .ok (.iload 4, 2) := by decide +kernel
theorem dX0_slack_11 : decode cX0_slack 11 = .ok (.bipush 10, 2) := by decide +kernel
theorem dX0_slack_13 : decode cX0_slack 13 = .ok (.if_icmp .ge 42, 3) := by decide +kernel
theorem dX0_slack_16 : decode cX0_slack 16 = .ok (.iload_n 1, 1) := by decide +kernel
theorem dX0_slack_17 : decode cX0_slack 17 = .ok (.iload 4, 2) := by decide +kernel
theorem dX0_slack_19 : decode cX0_slack 19 = .ok (.invokestatic 74, 3) := by decide +kernel
theorem dX0_slack_22 : decode cX0_slack 22 = .ok (.ifCond .eq 18, 3) := by decide +kernel
theorem dX0_slack_25 : decode cX0_slack 25 = .ok (.iload_n 2, 1) := by decide +kernel
theorem dX0_slack_26 : decode cX0_slack 26 = .ok (.iload 4, 2) := by decide +kernel
theorem dX0_slack_28 : decode cX0_slack 28 = .ok (.invokestatic 74, 3) := by decide +kernel
theorem dX0_slack_31 : decode cX0_slack 31 = .ok (.aload_n 0, 1) := by decide +kernel
theorem dX0_slack_32 : decode cX0_slack 32 = .ok (.iload 4, 2) := by decide +kernel
theorem dX0_slack_34 : decode cX0_slack 34 = .ok (.invokevirtual 77, 3) := by decide +kernel
theorem dX0_slack_37 : decode cX0_slack 37 = .ok (.if_icmp .ne 12, 3) := by decide +kernel
theorem dX0_slack_40 : decode cX0_slack 40 = .ok (.iload_n 3, 1) := by decide +kernel
theorem dX0_slack_41 : decode cX0_slack 41 = .ok (.aload_n 0, 1) := by decide +kernel
theorem dX0_slack_42 : decode cX0_slack 42 = .ok (.iload 4, 2) := by decide +kernel
theorem dX0_slack_44 : decode cX0_slack 44 = .ok (.invokevirtual 33, 3) := by decide +kernel
theorem dX0_slack_47 : decode cX0_slack 47 = .ok (.iadd, 1) := by decide +kernel
theorem dX0_slack_48 : decode cX0_slack 48 = .ok (.istore_n 3, 1) := by decide +kernel
theorem dX0_slack_49 : decode cX0_slack 49 = .ok (.iinc 4 1, 3) := by decide +kernel
theorem dX0_slack_52 : decode cX0_slack 52 = .ok (.goto (-43), 3) := by decide +kernel
theorem dX0_slack_55 : decode cX0_slack 55 = .ok (.iload_n 3, 1) := by decide +kernel
theorem dX0_slack_56 : decode cX0_slack 56 = .ok (.ireturn, 1) := by decide +kernel
theorem dX0_countedTruth_0 : decode cX0_countedTruth 0 = .ok (.aload_n 0, 1) := by decide +kernel
theorem dX0_countedTruth_1 : decode cX0_countedTruth 1 = .ok (.getfield 9, 3) := by decide +kernel
theorem dX0_countedTruth_4 : decode cX0_countedTruth 4 = .ok (.iload_n 1, 1) := by decide +kernel
theorem dX0_countedTruth_5 : decode cX0_countedTruth 5 = .ok (.iaload, 1) := by decide +kernel
theorem dX0_countedTruth_6 : decode cX0_countedTruth 6 = .ok (.ifCond .le 7, 3) := by decide +kernel
theorem dX0_countedTruth_9 : decode cX0_countedTruth 9 = .ok (.iconst 1, 1) := by decide +kernel
theorem dX0_countedTruth_10 : decode cX0_countedTruth 10 = .ok (.goto 4, 3) := by decide +kernel
theorem dX0_countedTruth_13 : decode cX0_countedTruth 13 = .ok (.iconst 0, 1) := by decide +kernel
theorem dX0_countedTruth_14 : decode cX0_countedTruth 14 = .ok (.ireturn, 1) := by decide +kernel
set_option maxRecDepth 20000 in
theorem ggX0_forcedFrom_X0_slack : GoodIn wsX0_forcedFrom wsX0_slack := goodIn_r _ [5, 6, 7, 8, 9, 10, 11, 12, 4, 13, 14, 15, 16, 17, 18, 19, 20, 21, 22, 23, 24, 25] (by decide +kernel) (by decide +kernel)
set_option maxRecDepth 20000 in
theorem gX0_forcedFrom_X0_slack : GoodIn wsX0_forcedFrom (wsV RX0 71 RX0 yX0_slack wsX0_slack) := goodIn_app (goodIn_of _ (by decide +kernel)) ggX0_forcedFrom_X0_slack
set_option maxRecDepth 20000 in
theorem ggX0_forcedFrom_X1_bit : GoodIn wsX0_forcedFrom wsX1_bit := goodIn_r _ [9] (by decide +kernel) (by decide +kernel)
set_option maxRecDepth 20000 in
theorem gX0_forcedFrom_X1_bit_n74 : GoodIn wsX0_forcedFrom (wsX1_bit) := ggX0_forcedFrom_X1_bit
set_option maxRecDepth 20000 in
theorem ggX0_forcedFrom_X0_size : GoodIn wsX0_forcedFrom wsX0_size := goodIn_r _ [18, 14, 19, 20, 21, 22, 23, 24, 25] (by decide +kernel) (by decide +kernel)
set_option maxRecDepth 20000 in
theorem gX0_forcedFrom_X0_size : GoodIn wsX0_forcedFrom (wsV RX0 33 RX0 yX0_size wsX0_size) := goodIn_app (goodIn_of _ (by decide +kernel)) ggX0_forcedFrom_X0_size
set_option maxRecDepth 20000 in
theorem ggX0_forcedFrom_X0_countedTruth : GoodIn wsX0_forcedFrom wsX0_countedTruth := goodIn_r _ [13, 14, 23, 24, 25] (by decide +kernel) (by decide +kernel)
set_option maxRecDepth 20000 in
theorem gX0_forcedFrom_X0_countedTruth : GoodIn wsX0_forcedFrom (wsV RX0 77 RX0 yX0_countedTruth wsX0_countedTruth) := goodIn_app (goodIn_of _ (by decide +kernel)) ggX0_forcedFrom_X0_countedTruth
theorem dX0_forcedFrom_0 : decode cX0_forcedFrom 0 = .ok (.iload_n 1, 1) := by decide +kernel
theorem dX0_forcedFrom_1 : decode cX0_forcedFrom 1 = .ok (.sipush 1024, 3) := by decide +kernel
theorem dX0_forcedFrom_4 : decode cX0_forcedFrom 4 = .ok (.idiv, 1) := by decide +kernel
theorem dX0_forcedFrom_5 : decode cX0_forcedFrom 5 = .ok (.istore_n 2, 1) := by decide +kernel
theorem dX0_forcedFrom_6 : decode cX0_forcedFrom 6 = .ok (.aload_n 0, 1) := by decide +kernel
theorem dX0_forcedFrom_7 : decode cX0_forcedFrom 7 = .ok (.iload_n 2, 1) := by decide +kernel
theorem dX0_forcedFrom_8 : decode cX0_forcedFrom 8 = .ok (.iload_n 1, 1) := by decide +kernel
theorem dX0_forcedFrom_9 : decode cX0_forcedFrom 9 = .ok (.sipush 1023, 3) := by decide +kernel
theorem dX0_forcedFrom_12 : decode cX0_forcedFrom 12 = .ok (.iand, 1) := by decide +kernel
theorem dX0_forcedFrom_13 : decode cX0_forcedFrom 13 = .ok (.invokevirtual 71, 3) := by decide +kernel
theorem dX0_forcedFrom_16 : decode cX0_forcedFrom 16 = .ok (.istore_n 3, 1) := by decide +kernel
theorem dX0_forcedFrom_17 : decode cX0_forcedFrom 17 = .ok (.iload_n 3, 1) := by decide +kernel
theorem dX0_forcedFrom_18 : decode cX0_forcedFrom 18 = .ok (.ifCond .ge 5, 3) := by decide +kernel
theorem dX0_forcedFrom_21 : decode cX0_forcedFrom 21 = .ok (.iconst (-1), 1) := by decide +kernel
theorem dX0_forcedFrom_22 : decode cX0_forcedFrom 22 = .ok (.ireturn, 1) := by decide +kernel
theorem dX0_forcedFrom_23 : decode cX0_forcedFrom 23 = .ok (.iload_n 1, 1) := by decide +kernel
theorem dX0_forcedFrom_24 : decode cX0_forcedFrom 24 = .ok (.istore 4, 2) := by decide +kernel
theorem dX0_forcedFrom_26 : decode cX0_forcedFrom 26 = .ok (.iconst 0, 1) := by decide +kernel
theorem dX0_forcedFrom_27 : decode cX0_forcedFrom 27 = .ok (.istore 5, 2) := by decide +kernel
theorem dX0_forcedFrom_29 : decode cX0_forcedFrom 29 = .ok (.iload 5, 2) := by decide +kernel
theorem dX0_forcedFrom_31 : decode cX0_forcedFrom 31 = .ok (.bipush 10, 2) := by decide +kernel
theorem dX0_forcedFrom_33 : decode cX0_forcedFrom 33 = .ok (.if_icmp .ge 46, 3) := by decide +kernel
theorem dX0_forcedFrom_36 : decode cX0_forcedFrom 36 = .ok (.iload_n 2, 1) := by decide +kernel
theorem dX0_forcedFrom_37 : decode cX0_forcedFrom 37 = .ok (.iload 5, 2) := by decide +kernel
theorem dX0_forcedFrom_39 : decode cX0_forcedFrom 39 = .ok (.invokestatic 74, 3) := by decide +kernel
theorem dX0_forcedFrom_42 : decode cX0_forcedFrom 42 = .ok (.ifCond .ne 31, 3) := by decide +kernel
theorem dX0_forcedFrom_45 : decode cX0_forcedFrom 45 = .ok (.aload_n 0, 1) := by decide +kernel
theorem dX0_forcedFrom_46 : decode cX0_forcedFrom 46 = .ok (.iload 5, 2) := by decide +kernel
theorem dX0_forcedFrom_48 : decode cX0_forcedFrom 48 = .ok (.invokevirtual 33, 3) := by decide +kernel
theorem dX0_forcedFrom_51 : decode cX0_forcedFrom 51 = .ok (.iload_n 3, 1) := by decide +kernel
theorem dX0_forcedFrom_52 : decode cX0_forcedFrom 52 = .ok (.if_icmp .le 21, 3) := by decide +kernel
theorem dX0_forcedFrom_55 : decode cX0_forcedFrom 55 = .ok (.iload 4, 2) := by decide +kernel
theorem dX0_forcedFrom_57 : decode cX0_forcedFrom 57 = .ok (.sipush 1024, 3) := by decide +kernel
theorem dX0_forcedFrom_60 : decode cX0_forcedFrom 60 = .ok (.aload_n 0, 1) := by decide +kernel
theorem dX0_forcedFrom_61 : decode cX0_forcedFrom 61 = .ok (.iload 5, 2) := by decide +kernel
theorem dX0_forcedFrom_63 : decode cX0_forcedFrom 63 = .ok (.invokevirtual 77, 3) := by decide +kernel
theorem dX0_forcedFrom_66 : decode cX0_forcedFrom 66 = .ok (.iadd, 1) := by decide +kernel
theorem dX0_forcedFrom_67 : decode cX0_forcedFrom 67 = .ok (.iload 5, 2) := by decide +kernel
theorem dX0_forcedFrom_69 : decode cX0_forcedFrom 69 = .ok (.ishl, 1) := by decide +kernel
theorem dX0_forcedFrom_70 : decode cX0_forcedFrom 70 = .ok (.iadd, 1) := by decide +kernel
theorem dX0_forcedFrom_71 : decode cX0_forcedFrom 71 = .ok (.istore 4, 2) := by decide +kernel
theorem dX0_forcedFrom_73 : decode cX0_forcedFrom 73 = .ok (.iinc 5 1, 3) := by decide +kernel
theorem dX0_forcedFrom_76 : decode cX0_forcedFrom 76 = .ok (.goto (-47), 3) := by decide +kernel
theorem dX0_forcedFrom_79 : decode cX0_forcedFrom 79 = .ok (.iload 4, 2) := by decide +kernel
theorem dX0_forcedFrom_81 : decode cX0_forcedFrom 81 = .ok (.ireturn, 1) := by decide +kernel
set_option maxRecDepth 20000 in
theorem ggX1_init_X0_init : GoodIn wsX1_init wsX0_init := goodIn_r _ [21, 22, 2, 3, 4, 23, 24, 25, 38, 39, 40] (by decide +kernel) (by decide +kernel)
set_option maxRecDepth 20000 in
theorem gX1_init_X0_init_n32 : GoodIn wsX1_init (wsX0_init) := ggX1_init_X0_init
theorem dX1_init_0 : decode cX1_init 0 = .ok (.aload_n 0, 1) := by decide +kernel
theorem dX1_init_1 : decode cX1_init 1 = .ok (.invokespecial 3, 3) := by decide +kernel
theorem dX1_init_4 : decode cX1_init 4 = .ok (.aload_n 0, 1) := by decide +kernel
theorem dX1_init_5 : decode cX1_init 5 = .ok (.bipush 10, 2) := by decide +kernel
theorem dX1_init_7 : decode cX1_init 7 = .ok (.newarray .int, 2) := by decide +kernel
theorem dX1_init_9 : decode cX1_init 9 = .ok (.putfield 9, 3) := by decide +kernel
theorem dX1_init_12 : decode cX1_init 12 = .ok (.aload_n 0, 1) := by decide +kernel
theorem dX1_init_13 : decode cX1_init 13 = .ok (.bipush 10, 2) := by decide +kernel
theorem dX1_init_15 : decode cX1_init 15 = .ok (.newarray .int, 2) := by decide +kernel
theorem dX1_init_17 : decode cX1_init 17 = .ok (.putfield 13, 3) := by decide +kernel
theorem dX1_init_20 : decode cX1_init 20 = .ok (.aload_n 0, 1) := by decide +kernel
theorem dX1_init_21 : decode cX1_init 21 = .ok (.bipush 30, 2) := by decide +kernel
theorem dX1_init_23 : decode cX1_init 23 = .ok (.anewarray 16, 3) := by decide +kernel
theorem dX1_init_26 : decode cX1_init 26 = .ok (.putfield 18, 3) := by decide +kernel
theorem dX1_init_29 : decode cX1_init 29 = .ok (.aload_n 0, 1) := by decide +kernel
theorem dX1_init_30 : decode cX1_init 30 = .ok (.iconst 0, 1) := by decide +kernel
theorem dX1_init_31 : decode cX1_init 31 = .ok (.putfield 22, 3) := by decide +kernel
theorem dX1_init_34 : decode cX1_init 34 = .ok (.aload_n 0, 1) := by decide +kernel
theorem dX1_init_35 : decode cX1_init 35 = .ok (.bipush 6, 2) := by decide +kernel
theorem dX1_init_37 : decode cX1_init 37 = .ok (.anewarray 16, 3) := by decide +kernel
theorem dX1_init_40 : decode cX1_init 40 = .ok (.putfield 26, 3) := by decide +kernel
theorem dX1_init_43 : decode cX1_init 43 = .ok (.aload_n 0, 1) := by decide +kernel
theorem dX1_init_44 : decode cX1_init 44 = .ok (.iconst 0, 1) := by decide +kernel
theorem dX1_init_45 : decode cX1_init 45 = .ok (.putfield 29, 3) := by decide +kernel
theorem dX1_init_48 : decode cX1_init 48 = .ok (.aload_n 0, 1) := by decide +kernel
theorem dX1_init_49 : decode cX1_init 49 = .ok (.new 16, 3) := by decide +kernel
theorem dX1_init_52 : decode cX1_init 52 = .ok (.dup, 1) := by decide +kernel
theorem dX1_init_53 : decode cX1_init 53 = .ok (.invokespecial 32, 3) := by decide +kernel
theorem dX1_init_56 : decode cX1_init 56 = .ok (.putfield 33, 3) := by decide +kernel
