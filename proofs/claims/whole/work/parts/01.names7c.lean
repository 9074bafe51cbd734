theorem hs_inP {big ws : List Cond} (ps : List Nat) (hp : ws = ps.filterMap (fun i => big[i]?)) : ∀ w ∈ ws, w ∈ big := by
  intro w hw
  rw [hp] at hw
  obtain ⟨i, -, hi⟩ := List.mem_filterMap.mp hw
  exact List.mem_of_getElem? hi
set_option maxRecDepth 20000 in
theorem wsL_law_r1_in : ∀ w ∈ wsL_law_r1, w ∈ lw_tbl := hs_inP [64, 65, 53, 525, 526, 60, 66, 67, 68, 69, 70, 71, 72, 73, 54, 168, 92, 93, 55, 169, 170, 109, 110, 56] (by decide +kernel)
set_option maxRecDepth 20000 in
theorem wsL_law_r2_in : ∀ w ∈ wsL_law_r2, w ∈ lw_tbl := hs_inP [171, 120, 121, 57, 172, 144, 145, 58, 173, 158, 159, 59, 174, 75, 76, 77, 91, 78, 82, 94, 95, 96, 97, 98] (by decide +kernel)
set_option maxRecDepth 20000 in
theorem wsL_law_r3_in : ∀ w ∈ wsL_law_r3, w ∈ lw_tbl := hs_inP [101, 102, 112, 113, 114, 115, 123, 124, 125, 126, 127, 128, 129, 131, 147, 148, 149, 150, 152, 161, 162, 163, 164, 527] (by decide +kernel)
set_option maxRecDepth 20000 in
theorem wsL_law_r4_in : ∀ w ∈ wsL_law_r4, w ∈ lw_tbl := hs_inP [528, 529, 530, 531, 532, 534, 536, 537, 538, 539, 541, 542, 190, 191, 192, 193, 194, 195, 196, 197, 198, 199, 200, 201] (by decide +kernel)
set_option maxRecDepth 20000 in
theorem wsL_law_r5_in : ∀ w ∈ wsL_law_r5, w ∈ lw_tbl := hs_inP [203, 0, 204, 205, 206, 207, 208, 209, 211, 210, 61, 212, 213, 214, 215, 568, 569, 570, 571, 572, 574, 18, 575, 576] (by decide +kernel)
set_option maxRecDepth 20000 in
theorem wsL_law_r6_in : ∀ w ∈ wsL_law_r6, w ∈ lw_tbl := hs_inP [577, 578, 579, 581, 19, 582, 533, 583, 585, 20, 586, 216, 217, 218, 219, 220, 221, 222, 223, 224, 225, 226, 227, 587] (by decide +kernel)
set_option maxRecDepth 20000 in
theorem wsL_law_r7_in : ∀ w ∈ wsL_law_r7, w ∈ lw_tbl := hs_inP [588, 589, 590, 591, 593, 21, 594, 228, 229, 230, 231, 595, 596, 597, 598, 232, 233, 234, 235, 236, 237, 238, 239, 240] (by decide +kernel)
set_option maxRecDepth 20000 in
theorem wsL_law_r8_in : ∀ w ∈ wsL_law_r8, w ∈ lw_tbl := hs_inP [241, 242, 243, 244, 245, 62, 246, 247, 248, 249, 599, 600, 601, 602, 603, 605, 22, 606, 607, 608, 609, 610, 612, 23] (by decide +kernel)
set_option maxRecDepth 20000 in
theorem wsL_law_r9_in : ∀ w ∈ wsL_law_r9, w ∈ lw_tbl := hs_inP [613, 250, 251, 252, 253, 254, 255, 256, 257, 258, 260, 1, 261, 614, 615, 616, 617, 262, 263, 264, 265, 266, 267, 268] (by decide +kernel)
set_option maxRecDepth 20000 in
theorem wsL_law_r10_in : ∀ w ∈ wsL_law_r10, w ∈ lw_tbl := hs_inP [269, 270, 271, 272, 618, 619, 620, 621, 273, 274, 275, 276, 277, 279, 2, 280, 281, 282, 283, 284, 285, 286, 622, 623] (by decide +kernel)
set_option maxRecDepth 20000 in
theorem wsL_law_r11_in : ∀ w ∈ wsL_law_r11, w ∈ lw_tbl := hs_inP [624, 625, 626, 628, 24, 629, 630, 632, 25, 633, 634, 636, 26, 637, 287, 288, 289, 290, 638, 639, 640, 641, 291, 292] (by decide +kernel)
set_option maxRecDepth 20000 in
theorem wsL_law_r12_in : ∀ w ∈ wsL_law_r12, w ∈ lw_tbl := hs_inP [293, 294, 295, 296, 297, 298, 642, 643, 644, 645, 299, 300, 301, 302, 303, 304, 305, 306, 307, 308, 309, 311, 312, 313] (by decide +kernel)
set_option maxRecDepth 20000 in
theorem wsL_law_r13_in : ∀ w ∈ wsL_law_r13, w ∈ lw_tbl := hs_inP [315, 3, 316, 317, 318, 319, 320, 321, 323, 4, 324, 325, 327, 5, 328, 329, 330, 331, 332, 333, 335, 6, 336, 337] (by decide +kernel)
set_option maxRecDepth 20000 in
theorem wsL_law_r14_in : ∀ w ∈ wsL_law_r14, w ∈ lw_tbl := hs_inP [339, 7, 340, 341, 343, 8, 344, 345, 347, 9, 348, 349, 350, 351, 352, 353, 355, 10, 356, 365, 357, 358, 359, 360] (by decide +kernel)
set_option maxRecDepth 20000 in
theorem wsL_law_r15_in : ∀ w ∈ wsL_law_r15, w ∈ lw_tbl := hs_inP [361, 362, 363, 364, 366, 367, 368, 369, 370, 371, 372, 373, 374, 375, 63, 376, 377, 378, 380, 11, 381, 382, 384, 12] (by decide +kernel)
set_option maxRecDepth 20000 in
theorem wsL_law_r16_in : ∀ w ∈ wsL_law_r16, w ∈ lw_tbl := hs_inP [385, 393, 387, 388, 389, 390, 391, 392, 646, 647, 648, 649, 650, 652, 27, 653, 654, 656, 28, 657, 658, 660, 29, 661] (by decide +kernel)
set_option maxRecDepth 20000 in
theorem wsL_law_r17_in : ∀ w ∈ wsL_law_r17, w ∈ lw_tbl := hs_inP [662, 664, 30, 665, 666, 668, 31, 669, 670, 672, 32, 673, 674, 676, 33, 677, 678, 680, 34, 681, 682, 684, 35, 685] (by decide +kernel)
set_option maxRecDepth 20000 in
theorem wsL_law_r18_in : ∀ w ∈ wsL_law_r18, w ∈ lw_tbl := hs_inP [686, 688, 36, 689, 690, 692, 37, 693, 540, 694, 696, 38, 697, 698, 700, 39, 701, 702, 704, 40, 705, 706, 708, 41] (by decide +kernel)
set_option maxRecDepth 20000 in
theorem wsL_law_r19_in : ∀ w ∈ wsL_law_r19, w ∈ lw_tbl := hs_inP [709, 710, 712, 42, 713, 714, 716, 43, 717, 394, 395, 396, 397, 398, 399, 400, 401, 402, 403, 404, 405, 406, 407, 408] (by decide +kernel)
set_option maxRecDepth 20000 in
theorem wsL_law_r20_in : ∀ w ∈ wsL_law_r20, w ∈ lw_tbl := hs_inP [409, 410, 411, 412, 413, 414, 416, 13, 417, 418, 420, 14, 421, 422, 424, 15, 425, 426, 427, 428, 429, 430, 431, 432] (by decide +kernel)
set_option maxRecDepth 20000 in
theorem wsL_law_r21_in : ∀ w ∈ wsL_law_r21, w ∈ lw_tbl := hs_inP [433, 434, 435, 718, 719, 720, 721, 722, 724, 44, 725, 726, 728, 45, 729, 730, 732, 46, 733, 734, 736, 47, 737, 436] (by decide +kernel)
set_option maxRecDepth 20000 in
theorem wsL_law_r22_in : ∀ w ∈ wsL_law_r22, w ∈ lw_tbl := hs_inP [437, 438, 439, 440, 441, 442, 443, 738, 739, 740, 741, 444, 445, 446, 447, 448, 449, 450, 451, 452, 454, 16, 455, 456] (by decide +kernel)
set_option maxRecDepth 20000 in
theorem wsL_law_r23_in : ∀ w ∈ wsL_law_r23, w ∈ lw_tbl := hs_inP [457, 458, 459, 742, 743, 744, 745, 746, 748, 48, 749, 460, 461, 462, 463, 464, 465, 466, 467, 750, 751, 752, 753, 754] (by decide +kernel)
set_option maxRecDepth 20000 in
theorem wsL_law_r24_in : ∀ w ∈ wsL_law_r24, w ∈ lw_tbl := hs_inP [756, 49, 757, 468, 469, 470, 471, 472, 758, 759, 760, 761, 473, 474, 475, 476, 477, 478, 479, 480, 481, 482, 483, 484] (by decide +kernel)
set_option maxRecDepth 20000 in
theorem wsL_law_r25_in : ∀ w ∈ wsL_law_r25, w ∈ lw_tbl := hs_inP [762, 763, 764, 765, 766, 768, 50, 769, 485, 486, 487, 488, 770, 771, 772, 773, 489, 490, 491, 492, 493, 495, 17, 496] (by decide +kernel)
set_option maxRecDepth 20000 in
theorem wsL_law_r26_in : ∀ w ∈ wsL_law_r26, w ∈ lw_tbl := hs_inP [774, 775, 776, 777, 497, 498, 499, 500, 778, 779, 780, 781, 501, 502, 503, 504, 782, 783, 784, 785, 505, 506, 507, 508] (by decide +kernel)
set_option maxRecDepth 20000 in
theorem wsL_law_r27_in : ∀ w ∈ wsL_law_r27, w ∈ lw_tbl := hs_inP [509, 510, 511, 512, 786, 787, 788, 789, 535, 790, 791, 792, 513, 514, 515, 516, 793, 794, 795, 796, 797, 799, 51, 800] (by decide +kernel)
set_option maxRecDepth 20000 in
theorem wsL_law_r28_in : ∀ w ∈ wsL_law_r28, w ∈ lw_tbl := hs_inP [517, 518, 519, 520, 521, 522, 523, 524, 801, 802, 803, 804] (by decide +kernel)
set_option maxRecDepth 20000 in
theorem inX0 : ∀ w ∈ wsX00, w ∈ lw_tbl := by decide +kernel
set_option maxRecDepth 20000 in
theorem inX1 : ∀ w ∈ wsX10, w ∈ lw_tbl := by decide +kernel
set_option maxRecDepth 20000 in
theorem inX2 : ∀ w ∈ wsX20, w ∈ lw_tbl := by decide +kernel
set_option maxRecDepth 20000 in
theorem inX3 : ∀ w ∈ wsX30, w ∈ lw_tbl := by decide +kernel
set_option maxRecDepth 20000 in
theorem inX4 : ∀ w ∈ wsX40, w ∈ lw_tbl := by decide +kernel
set_option maxRecDepth 20000 in
theorem inX5 : ∀ w ∈ wsX50, w ∈ lw_tbl := by decide +kernel
set_option maxRecDepth 20000 in
theorem inX6 : ∀ w ∈ wsX60, w ∈ lw_tbl := by decide +kernel
set_option maxRecDepth 20000 in
theorem inX7 : ∀ w ∈ wsX70, w ∈ lw_tbl := by decide +kernel
theorem hs_inApp {big a b : List Cond} (ha : ∀ w ∈ a, w ∈ big) (hb : ∀ w ∈ b, w ∈ big) : ∀ w ∈ a ++ b, w ∈ big := fun w h => (List.mem_append.mp h).elim (ha w) (hb w)
theorem wsL_law_in : ∀ w ∈ wsL_law, w ∈ lw_tbl := (hs_inApp (hs_inApp (hs_inApp (hs_inApp (hs_inApp (hs_inApp (hs_inApp (hs_inApp (hs_inApp (hs_inApp wsL_law_r1_in (hs_inApp wsL_law_r2_in (hs_inApp wsL_law_r3_in (hs_inApp wsL_law_r4_in (hs_inApp wsL_law_r5_in (hs_inApp wsL_law_r6_in (hs_inApp wsL_law_r7_in (hs_inApp wsL_law_r8_in (hs_inApp wsL_law_r9_in (hs_inApp wsL_law_r10_in (hs_inApp wsL_law_r11_in (hs_inApp wsL_law_r12_in (hs_inApp wsL_law_r13_in (hs_inApp wsL_law_r14_in (hs_inApp wsL_law_r15_in (hs_inApp wsL_law_r16_in (hs_inApp wsL_law_r17_in (hs_inApp wsL_law_r18_in (hs_inApp wsL_law_r19_in (hs_inApp wsL_law_r20_in (hs_inApp wsL_law_r21_in (hs_inApp wsL_law_r22_in (hs_inApp wsL_law_r23_in (hs_inApp wsL_law_r24_in (hs_inApp wsL_law_r25_in (hs_inApp wsL_law_r26_in (hs_inApp wsL_law_r27_in wsL_law_r28_in))))))))))))))))))))))))))) inX6) inX7) inX0) inX1) inX5) inX3) inX4) inX2) (fun w h => absurd h List.not_mem_nil))
