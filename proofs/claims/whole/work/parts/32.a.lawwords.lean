/-! the law's words by their places among the tables' -/
theorem places_in {big ws : List Cond} (ps : List Nat) (h : ws.map some = ps.map (fun i => big[i]?)) : ∀ w ∈ ws, w ∈ big := by
  intro w hw
  have h1 : some w ∈ ps.map (fun i => big[i]?) := by rw [← h]; exact List.mem_map_of_mem hw
  obtain ⟨i, -, hi⟩ := List.mem_map.mp h1
  exact List.mem_of_getElem? hi
theorem wsL_law0_r1_in : ∀ w ∈ wsL_law0_r1, w ∈ lw_tbl := places_in [44, 45, 29, 593, 594, 34, 825, 46, 47, 48, 49, 50, 51, 52, 53, 30, 180, 181, 74, 75, 31, 182, 111, 112] (by decide +kernel)
theorem wsL_law0_r2_in : ∀ w ∈ wsL_law0_r2, w ∈ lw_tbl := places_in [32, 183, 55, 56, 57, 73, 58, 62, 63, 77, 78, 79, 84, 86, 88, 90, 92, 80, 94, 113, 114, 115, 116, 117] (by decide +kernel)
theorem wsL_law0_r3_in : ∀ w ∈ wsL_law0_r3, w ∈ lw_tbl := places_in [166, 167, 168, 119, 33, 121, 122, 123, 595, 596, 597, 598, 601, 602, 604, 605, 606, 607, 608, 609, 687, 610, 611, 612] (by decide +kernel)
theorem wsL_law0_r4_in : ∀ w ∈ wsL_law0_r4, w ∈ lw_tbl := places_in [618, 619, 620, 621, 622, 623, 624, 625, 626, 627, 322, 323, 28, 324, 325, 326, 327, 328, 329, 330, 402, 39, 184, 331] (by decide +kernel)
theorem wsL_law0_r5_in : ∀ w ∈ wsL_law0_r5, w ∈ lw_tbl := places_in [332, 333, 334, 38, 418, 420, 8, 421, 59, 185, 692, 693, 694, 695, 599, 600, 696, 697, 698, 699, 700, 701, 702, 704] (by decide +kernel)
theorem wsL_law0_r6_in : ∀ w ∈ wsL_law0_r6, w ∈ lw_tbl := places_in [14, 705, 688, 689, 690, 691, 422, 423, 424, 425, 426, 427, 428, 429, 430, 432, 9, 433, 434, 40, 706, 707, 708, 709] (by decide +kernel)
theorem wsL_law0_r7_in : ∀ w ∈ wsL_law0_r7, w ∈ lw_tbl := places_in [710, 712, 15, 713, 450, 451, 452, 453, 454, 455, 456, 83, 460, 461, 462, 463, 82, 714, 715, 716, 717, 603, 464, 465] (by decide +kernel)
theorem wsL_law0_r8_in : ∀ w ∈ wsL_law0_r8, w ∈ lw_tbl := places_in [466, 467, 468, 469, 470, 93, 471, 473, 10, 474, 207, 209, 0, 210, 211, 212, 213, 214, 215, 217, 1, 218, 87, 89] (by decide +kernel)
theorem wsL_law0_r9_in : ∀ w ∈ wsL_law0_r9, w ∈ lw_tbl := places_in [91, 85, 219, 220, 221, 222, 223, 224, 225, 226, 227, 228, 229, 230, 232, 2, 233, 234, 235, 236, 237, 60, 238, 476] (by decide +kernel)
theorem wsL_law0_r10_in : ∀ w ∈ wsL_law0_r10, w ∈ lw_tbl := places_in [477, 478, 479, 480, 482, 11, 483, 484, 486, 485, 41, 718, 719, 720, 721, 722, 724, 16, 725, 726, 728, 17, 729, 730] (by decide +kernel)
theorem wsL_law0_r11_in : ∀ w ∈ wsL_law0_r11, w ∈ lw_tbl := places_in [732, 18, 733, 734, 736, 19, 737, 487, 488, 489, 490, 491, 492, 493, 494, 496, 12, 497, 738, 739, 740, 741, 499, 500] (by decide +kernel)
theorem wsL_law0_r12_in : ∀ w ∈ wsL_law0_r12, w ∈ lw_tbl := places_in [501, 502, 503, 504, 505, 742, 743, 744, 745, 199, 200, 201, 202, 746, 747, 748, 749, 203, 204, 205, 206, 61, 750, 751] (by decide +kernel)
theorem wsL_law0_r13_in : ∀ w ∈ wsL_law0_r13, w ∈ lw_tbl := places_in [752, 753, 506, 507, 508, 509, 510, 511, 512, 513, 264, 265, 266, 754, 755, 756, 757, 758, 760, 20, 761, 514, 515, 516] (by decide +kernel)
theorem wsL_law0_r14_in : ∀ w ∈ wsL_law0_r14, w ∈ lw_tbl := places_in [517, 518, 519, 520, 762, 763, 764, 765, 521, 522, 523, 524, 525, 526, 527, 95, 528, 529, 530, 532, 533, 534, 535, 766] (by decide +kernel)
theorem wsL_law0_r15_in : ∀ w ∈ wsL_law0_r15, w ∈ lw_tbl := places_in [767, 768, 769, 536, 537, 538, 539, 540, 541, 542, 543, 544, 545, 546, 770, 771, 772, 773, 547, 548, 549, 550, 551, 552] (by decide +kernel)
theorem wsL_law0_r16_in : ∀ w ∈ wsL_law0_r16, w ∈ lw_tbl := places_in [553, 140, 554, 555, 556, 558, 559, 560, 561, 162, 255, 256, 257, 258, 562, 563, 564, 565, 124, 125, 126, 128, 243, 245] (by decide +kernel)
theorem wsL_law0_r17_in : ∀ w ∈ wsL_law0_r17, w ∈ lw_tbl := places_in [3, 246, 247, 248, 249, 250, 164, 127, 251, 252, 253, 254, 259, 260, 261, 262, 267, 268, 42, 269, 129, 270, 271, 272] (by decide +kernel)
theorem wsL_law0_r18_in : ∀ w ∈ wsL_law0_r18, w ∈ lw_tbl := places_in [131, 133, 135, 137, 138, 263, 273, 275, 4, 276, 566, 774, 775, 776, 777, 613, 614, 615, 616, 778, 780, 21, 781, 617] (by decide +kernel)
theorem wsL_law0_r19_in : ∀ w ∈ wsL_law0_r19, w ∈ lw_tbl := places_in [782, 784, 22, 785, 786, 788, 23, 789, 790, 792, 24, 793, 567, 568, 569, 570, 571, 572, 573, 163, 165, 574, 576, 13] (by decide +kernel)
theorem wsL_law0_r20_in : ∀ w ∈ wsL_law0_r20, w ∈ lw_tbl := places_in [577, 581, 582, 583, 584, 794, 795, 796, 797, 585, 586, 587, 588, 589, 590, 591, 592, 798, 799, 800, 801, 239, 240, 241] (by decide +kernel)
theorem wsL_law0_r21_in : ∀ w ∈ wsL_law0_r21, w ∈ lw_tbl := places_in [242, 277, 278, 279, 280, 139, 281, 282, 283, 284, 285, 286, 287, 288, 289, 291, 5, 292, 130, 134, 132, 136, 293, 294] (by decide +kernel)
theorem wsL_law0_r22_in : ∀ w ∈ wsL_law0_r22, w ∈ lw_tbl := places_in [295, 296, 298, 6, 299, 300, 301, 302, 303, 304, 305, 306, 307, 308, 309, 43, 310, 311, 312, 313, 802, 803, 804, 805] (by decide +kernel)
theorem wsL_law0_r23_in : ∀ w ∈ wsL_law0_r23, w ∈ lw_tbl := places_in [806, 808, 25, 809, 810, 812, 26, 813, 814, 815, 816, 817, 819, 27, 820, 314, 315, 316, 317, 318, 319, 320, 321, 821] (by decide +kernel)
theorem wsL_law0_r24_in : ∀ w ∈ wsL_law0_r24, w ∈ lw_tbl := places_in [822, 823, 824] (by decide +kernel)
theorem wsX40_in : ∀ w ∈ wsX40, w ∈ lw_tbl := places_in [186, 188, 190, 192, 194, 196] (by decide +kernel)
theorem wsX50_in : ∀ w ∈ wsX50, w ∈ lw_tbl := places_in [628, 630, 632, 634, 636, 638, 640, 642, 644, 646, 648, 650, 652, 654, 656, 658, 660, 662, 664, 666, 668, 670, 672, 674, 676, 678, 680, 682, 684] (by decide +kernel)
theorem wsX00_in : ∀ w ∈ wsX00, w ∈ lw_tbl := places_in [64, 66, 68, 70] (by decide +kernel)
theorem wsX30_in : ∀ w ∈ wsX30, w ∈ lw_tbl := places_in [96, 98, 100, 102, 104, 106, 108] (by decide +kernel)
theorem wsX20_in : ∀ w ∈ wsX20, w ∈ lw_tbl := places_in [169, 171, 173, 175, 177] (by decide +kernel)
theorem wsX10_in : ∀ w ∈ wsX10, w ∈ lw_tbl := places_in [141, 143, 145, 147, 149, 151, 153, 155, 157, 159] (by decide +kernel)
theorem mem_app {big a b : List Cond} (ha : ∀ w ∈ a, w ∈ big) (hb : ∀ w ∈ b, w ∈ big) : ∀ w ∈ a ++ b, w ∈ big := fun w h => (List.mem_append.mp h).elim (ha w) (hb w)
theorem wsL_law_in0 : ∀ w ∈ wsL_law0, w ∈ lw_tbl := (mem_app (mem_app (mem_app (mem_app (mem_app (mem_app (mem_app (mem_app wsL_law0_r1_in (mem_app wsL_law0_r2_in (mem_app wsL_law0_r3_in (mem_app wsL_law0_r4_in (mem_app wsL_law0_r5_in (mem_app wsL_law0_r6_in (mem_app wsL_law0_r7_in (mem_app wsL_law0_r8_in (mem_app wsL_law0_r9_in (mem_app wsL_law0_r10_in (mem_app wsL_law0_r11_in (mem_app wsL_law0_r12_in (mem_app wsL_law0_r13_in (mem_app wsL_law0_r14_in (mem_app wsL_law0_r15_in (mem_app wsL_law0_r16_in (mem_app wsL_law0_r17_in (mem_app wsL_law0_r18_in (mem_app wsL_law0_r19_in (mem_app wsL_law0_r20_in (mem_app wsL_law0_r21_in (mem_app wsL_law0_r22_in (mem_app wsL_law0_r23_in wsL_law0_r24_in))))))))))))))))))))))) wsX40_in) wsX50_in) wsX00_in) wsX30_in) wsX20_in) wsX10_in) (fun _ h => absurd h List.not_mem_nil))
theorem wsL_law_x0 : ∀ w ∈ (vx_atS RX4 45 "java/lang/IllegalStateException" ["java/lang/RuntimeException", "java/lang/Exception"]).filter goodWord, w ∈ lw_tbl := by decide +kernel
theorem wsL_law_x1 : ∀ w ∈ (vx_atS RX4 59 "java/lang/IllegalArgumentException" ["java/lang/RuntimeException", "java/lang/Exception"]).filter goodWord, w ∈ lw_tbl := by decide +kernel
theorem wsL_law_x2 : ∀ w ∈ (vx_atS RX4 172 "java/lang/IndexOutOfBoundsException" ["java/lang/RuntimeException", "java/lang/Exception"]).filter goodWord, w ∈ lw_tbl := by decide +kernel
theorem wsL_law_in : ∀ w ∈ wsL_law, w ∈ lw_tbl := fun w h => (List.mem_append.mp h).elim (fun h => (List.mem_append.mp h).elim (fun h => (List.mem_append.mp h).elim (fun h => wsL_law_in0 w h) (fun h => wsL_law_x0 w h)) (fun h => wsL_law_x1 w h)) (fun h => wsL_law_x2 w h)
theorem inlX0 : ∀ w ∈ wsX00, w ∈ wsL_law := fun _ h => List.mem_append_left _ (List.mem_append_left _ (List.mem_append_left _ (List.mem_append_left _ (List.mem_append_left _ (List.mem_append_left _ (List.mem_append_left _ (List.mem_append_right _ h)))))))
theorem inX0 : ∀ w ∈ wsX00, w ∈ lw_tbl := fun w h => wsL_law_in w (inlX0 w h)
theorem inlX1 : ∀ w ∈ wsX10, w ∈ wsL_law := fun _ h => List.mem_append_left _ (List.mem_append_left _ (List.mem_append_left _ (List.mem_append_left _ (List.mem_append_right _ h))))
theorem inX1 : ∀ w ∈ wsX10, w ∈ lw_tbl := fun w h => wsL_law_in w (inlX1 w h)
theorem inlX2 : ∀ w ∈ wsX20, w ∈ wsL_law := fun _ h => List.mem_append_left _ (List.mem_append_left _ (List.mem_append_left _ (List.mem_append_left _ (List.mem_append_left _ (List.mem_append_right _ h)))))
theorem inX2 : ∀ w ∈ wsX20, w ∈ lw_tbl := fun w h => wsL_law_in w (inlX2 w h)
theorem inlX3 : ∀ w ∈ wsX30, w ∈ wsL_law := fun _ h => List.mem_append_left _ (List.mem_append_left _ (List.mem_append_left _ (List.mem_append_left _ (List.mem_append_left _ (List.mem_append_left _ (List.mem_append_right _ h))))))
theorem inX3 : ∀ w ∈ wsX30, w ∈ lw_tbl := fun w h => wsL_law_in w (inlX3 w h)
theorem inlX4 : ∀ w ∈ wsX40, w ∈ wsL_law := fun _ h => List.mem_append_left _ (List.mem_append_left _ (List.mem_append_left _ (List.mem_append_left _ (List.mem_append_left _ (List.mem_append_left _ (List.mem_append_left _ (List.mem_append_left _ (List.mem_append_left _ (List.mem_append_right _ h)))))))))
theorem inX4 : ∀ w ∈ wsX40, w ∈ lw_tbl := fun w h => wsL_law_in w (inlX4 w h)
theorem inlX5 : ∀ w ∈ wsX50, w ∈ wsL_law := fun _ h => List.mem_append_left _ (List.mem_append_left _ (List.mem_append_left _ (List.mem_append_left _ (List.mem_append_left _ (List.mem_append_left _ (List.mem_append_left _ (List.mem_append_left _ (List.mem_append_right _ h))))))))
theorem inX5 : ∀ w ∈ wsX50, w ∈ lw_tbl := fun w h => wsL_law_in w (inlX5 w h)
theorem inJ13 : ∀ w ∈ wsJ130, w ∈ lw_tbl := by decide +kernel
theorem inJ9 : ∀ w ∈ wsJ90, w ∈ lw_tbl := by decide +kernel
theorem inJ0 : ∀ w ∈ wsJ00, w ∈ lw_tbl := by decide +kernel
theorem inJ10 : ∀ w ∈ wsJ100, w ∈ lw_tbl := by decide +kernel
