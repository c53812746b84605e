set_option maxRecDepth 20000 in
theorem wsL_law_r1_in : GoodIn lw_tbl wsL_law_r1 := goodIn_r _ [54, 55, 44, 511, 512, 48, 508, 509, 43, 510, 56, 57, 58, 59, 60, 61, 62, 63, 45, 72, 73, 74, 46, 158] (by decide +kernel) (by decide +kernel)
set_option maxRecDepth 20000 in
theorem wsL_law_r2_in : GoodIn lw_tbl wsL_law_r2 := goodIn_r _ [93, 159, 95, 47, 168, 160, 64, 65, 66, 67, 68, 76, 77, 78, 79, 81, 96, 97, 98, 99, 108, 101, 102, 103] (by decide +kernel) (by decide +kernel)
set_option maxRecDepth 20000 in
theorem wsL_law_r3_in : GoodIn lw_tbl wsL_law_r3 := goodIn_r _ [104, 105, 117, 100, 106, 107, 109, 513, 514, 515, 516, 519, 520, 521, 522, 523, 524, 525, 526, 527, 528, 529, 530, 531] (by decide +kernel) (by decide +kernel)
set_option maxRecDepth 20000 in
theorem wsL_law_r4_in : GoodIn lw_tbl wsL_law_r4 := goodIn_r _ [532, 533, 536, 537, 538, 539, 540, 541, 542, 517, 518, 169, 170, 171, 172, 118, 173, 175, 0, 176, 177, 178, 179, 183] (by decide +kernel) (by decide +kernel)
set_option maxRecDepth 20000 in
theorem wsL_law_r5_in : GoodIn lw_tbl wsL_law_r5 := goodIn_r _ [180, 181, 182, 184, 185, 186, 187, 111, 188, 190, 1, 191, 113, 192, 194, 2, 195, 196, 197, 198, 199, 200, 201, 202] (by decide +kernel) (by decide +kernel)
set_option maxRecDepth 20000 in
theorem wsL_law_r6_in : GoodIn lw_tbl wsL_law_r6 := goodIn_r _ [203, 204, 205, 206, 207, 208, 209, 210, 211, 212, 213, 230, 214, 215, 49, 216, 217, 218, 219, 220, 221, 223, 224, 225] (by decide +kernel) (by decide +kernel)
set_option maxRecDepth 20000 in
theorem wsL_law_r7_in : GoodIn lw_tbl wsL_law_r7 := goodIn_r _ [50, 226, 227, 229, 228, 51, 231, 232, 233, 234, 235, 236, 238, 3, 239, 240, 52, 115, 241, 242, 243, 244, 245, 248] (by decide +kernel) (by decide +kernel)
set_option maxRecDepth 20000 in
theorem wsL_law_r8_in : GoodIn lw_tbl wsL_law_r8 := goodIn_r _ [250, 252, 258, 254, 256, 280, 281, 282, 283, 82, 84, 596, 597, 598, 599, 607, 600, 602, 22, 603, 604, 605, 606, 608] (by decide +kernel) (by decide +kernel)
set_option maxRecDepth 20000 in
theorem wsL_law_r9_in : GoodIn lw_tbl wsL_law_r9 := goodIn_r _ [610, 23, 611, 612, 614, 24, 615, 616, 618, 25, 619, 620, 622, 26, 623, 534, 535, 624, 625, 626, 627, 629, 27, 630] (by decide +kernel) (by decide +kernel)
set_option maxRecDepth 20000 in
theorem wsL_law_r10_in : GoodIn lw_tbl wsL_law_r10 := goodIn_r _ [284, 285, 286, 287, 246, 249, 288, 289, 290, 291, 261, 292, 293, 294, 295, 296, 298, 4, 299, 300, 301, 302, 303, 304] (by decide +kernel) (by decide +kernel)
set_option maxRecDepth 20000 in
theorem wsL_law_r11_in : GoodIn lw_tbl wsL_law_r11 := goodIn_r _ [305, 306, 307, 251, 253, 308, 310, 5, 311, 247, 257, 312, 314, 6, 315, 120, 316, 317, 318, 319, 321, 7, 322, 323] (by decide +kernel) (by decide +kernel)
set_option maxRecDepth 20000 in
theorem wsL_law_r12_in : GoodIn lw_tbl wsL_law_r12 := goodIn_r _ [259, 255, 324, 326, 8, 327, 119, 328, 329, 330, 331, 332, 334, 9, 335, 337, 336, 338, 340, 10, 341, 342, 344, 11] (by decide +kernel) (by decide +kernel)
set_option maxRecDepth 20000 in
theorem wsL_law_r13_in : GoodIn lw_tbl wsL_law_r13 := goodIn_r _ [345, 346, 347, 349, 12, 350, 351, 353, 13, 354, 355, 357, 14, 358, 121, 122, 359, 360, 361, 362, 363, 365, 15, 366] (by decide +kernel) (by decide +kernel)
set_option maxRecDepth 20000 in
theorem wsL_law_r14_in : GoodIn lw_tbl wsL_law_r14 := goodIn_r _ [367, 368, 369, 53, 370, 371, 372, 373, 374, 376, 16, 377, 378, 380, 17, 381, 382, 383, 384, 385, 386, 387, 388, 390] (by decide +kernel) (by decide +kernel)
set_option maxRecDepth 20000 in
theorem wsL_law_r15_in : GoodIn lw_tbl wsL_law_r15 := goodIn_r _ [18, 391, 631, 632, 633, 634, 635, 637, 28, 638, 639, 641, 29, 642, 643, 645, 30, 646, 647, 649, 31, 650, 651, 652] (by decide +kernel) (by decide +kernel)
set_option maxRecDepth 20000 in
theorem wsL_law_r16_in : GoodIn lw_tbl wsL_law_r16 := goodIn_r _ [653, 654, 655, 656, 657, 659, 32, 660, 661, 663, 33, 664, 665, 667, 34, 668, 669, 671, 35, 672, 673, 675, 36, 676] (by decide +kernel) (by decide +kernel)
set_option maxRecDepth 20000 in
theorem wsL_law_r17_in : GoodIn lw_tbl wsL_law_r17 := goodIn_r _ [677, 679, 37, 680, 681, 683, 38, 684, 685, 687, 39, 688, 689, 691, 40, 692, 693, 695, 41, 696, 392, 393, 394, 395] (by decide +kernel) (by decide +kernel)
set_option maxRecDepth 20000 in
theorem wsL_law_r18_in : GoodIn lw_tbl wsL_law_r18 := goodIn_r _ [262, 697, 698, 699, 700, 396, 397, 398, 399, 701, 702, 703, 704, 400, 401, 402, 403, 114, 404, 405, 705, 706, 707, 708] (by decide +kernel) (by decide +kernel)
set_option maxRecDepth 20000 in
theorem wsL_law_r19_in : GoodIn lw_tbl wsL_law_r19 := goodIn_r _ [406, 407, 408, 409, 112, 410, 411, 412, 413, 709, 710, 711, 712, 414, 415, 416, 417, 418, 419, 420, 421, 422, 424, 19] (by decide +kernel) (by decide +kernel)
set_option maxRecDepth 20000 in
theorem wsL_law_r20_in : GoodIn lw_tbl wsL_law_r20 := goodIn_r _ [425, 713, 714, 715, 716, 426, 427, 428, 429, 430, 431, 432, 433, 717, 718, 719, 720, 434, 435, 436, 437, 438, 439, 440] (by decide +kernel) (by decide +kernel)
set_option maxRecDepth 20000 in
theorem wsL_law_r21_in : GoodIn lw_tbl wsL_law_r21 := goodIn_r _ [441, 721, 722, 723, 724, 725, 727, 42, 728, 442, 443, 444, 445, 446, 447, 729, 730, 731, 732, 733, 448, 449, 450, 451] (by decide +kernel) (by decide +kernel)
set_option maxRecDepth 20000 in
theorem wsL_law_r22_in : GoodIn lw_tbl wsL_law_r22 := goodIn_r _ [452, 453, 454, 455, 456, 457, 458, 459, 734, 735, 736, 737, 460, 461, 462, 463, 110, 738, 739, 740, 741, 464, 465, 466] (by decide +kernel) (by decide +kernel)
set_option maxRecDepth 20000 in
theorem wsL_law_r23_in : GoodIn lw_tbl wsL_law_r23 := goodIn_r _ [467, 468, 469, 470, 471, 472, 260, 473, 742, 743, 744, 745, 474, 475, 476, 477, 83, 85, 478, 479, 480, 481, 482, 484] (by decide +kernel) (by decide +kernel)
set_option maxRecDepth 20000 in
theorem wsL_law_r24_in : GoodIn lw_tbl wsL_law_r24 := goodIn_r _ [20, 485, 486, 488, 21, 489, 746, 747, 748, 749, 490, 491, 492, 493, 116, 494, 495, 496, 497, 750, 751, 752, 753, 498] (by decide +kernel) (by decide +kernel)
set_option maxRecDepth 20000 in
theorem wsL_law_r25_in : GoodIn lw_tbl wsL_law_r25 := goodIn_r _ [499, 500, 501, 502, 506, 503, 504, 505, 507, 754, 755, 756, 757, 758, 759, 760, 761, 762] (by decide +kernel) (by decide +kernel)
set_option maxRecDepth 20000 in
theorem inX0_g : GoodIn lw_tbl wsX00 := goodIn_r _ [263, 265, 267, 269, 271, 273, 275, 277] (by decide +kernel) (by decide +kernel)
set_option maxRecDepth 20000 in
theorem inX1_g : GoodIn lw_tbl wsX10 := goodIn_r _ [69] (by decide +kernel) (by decide +kernel)
set_option maxRecDepth 20000 in
theorem inX2_g : GoodIn lw_tbl wsX20 := goodIn_r _ [123, 125, 127, 129, 131, 133, 135, 137, 139, 141, 143, 145, 147, 149, 151, 153, 155] (by decide +kernel) (by decide +kernel)
set_option maxRecDepth 20000 in
theorem inX3_g : GoodIn lw_tbl wsX30 := goodIn_r _ [86, 88, 90] (by decide +kernel) (by decide +kernel)
set_option maxRecDepth 20000 in
theorem inX4_g : GoodIn lw_tbl wsX40 := goodIn_r _ [161, 163, 165] (by decide +kernel) (by decide +kernel)
set_option maxRecDepth 20000 in
theorem inX5_g : GoodIn lw_tbl wsX50 := goodIn_r _ [543, 545, 547, 549, 551, 553, 555, 557, 559, 561, 563, 565, 567, 569, 571, 573, 575, 577, 579, 581, 583, 585, 587, 589, 591, 593] (by decide +kernel) (by decide +kernel)
theorem wsL_law_good : GoodIn lw_tbl wsL_law := goodIn_app (goodIn_app (goodIn_app (goodIn_app (goodIn_app (goodIn_app (goodIn_app (goodIn_app wsL_law_r1_in (goodIn_app wsL_law_r2_in (goodIn_app wsL_law_r3_in (goodIn_app wsL_law_r4_in (goodIn_app wsL_law_r5_in (goodIn_app wsL_law_r6_in (goodIn_app wsL_law_r7_in (goodIn_app wsL_law_r8_in (goodIn_app wsL_law_r9_in (goodIn_app wsL_law_r10_in (goodIn_app wsL_law_r11_in (goodIn_app wsL_law_r12_in (goodIn_app wsL_law_r13_in (goodIn_app wsL_law_r14_in (goodIn_app wsL_law_r15_in (goodIn_app wsL_law_r16_in (goodIn_app wsL_law_r17_in (goodIn_app wsL_law_r18_in (goodIn_app wsL_law_r19_in (goodIn_app wsL_law_r20_in (goodIn_app wsL_law_r21_in (goodIn_app wsL_law_r22_in (goodIn_app wsL_law_r23_in (goodIn_app wsL_law_r24_in (wsL_law_r25_in))))))))))))))))))))))))) inX4_g) inX5_g) inX1_g) inX3_g) inX2_g) inX0_g) (fun _ h => absurd h List.not_mem_nil)
theorem wsL_law_in : ∀ w ∈ wsL_law, w ∈ lw_tbl := fun w h => (wsL_law_good w h).1
theorem inlX0 : ∀ w ∈ wsX00, w ∈ wsL_law := fun _ h => List.mem_append_left _ (List.mem_append_right _ h)
theorem inX0 : ∀ w ∈ wsX00, w ∈ lw_tbl := fun w h => wsL_law_in w (inlX0 w h)
theorem inlX1 : ∀ w ∈ wsX10, w ∈ wsL_law := fun _ h => List.mem_append_left _ (List.mem_append_left _ (List.mem_append_left _ (List.mem_append_left _ (List.mem_append_right _ h))))
theorem inX1 : ∀ w ∈ wsX10, w ∈ lw_tbl := fun w h => wsL_law_in w (inlX1 w h)
theorem inlX2 : ∀ w ∈ wsX20, w ∈ wsL_law := fun _ h => List.mem_append_left _ (List.mem_append_left _ (List.mem_append_right _ h))
theorem inX2 : ∀ w ∈ wsX20, w ∈ lw_tbl := fun w h => wsL_law_in w (inlX2 w h)
theorem inlX3 : ∀ w ∈ wsX30, w ∈ wsL_law := fun _ h => List.mem_append_left _ (List.mem_append_left _ (List.mem_append_left _ (List.mem_append_right _ h)))
theorem inX3 : ∀ w ∈ wsX30, w ∈ lw_tbl := fun w h => wsL_law_in w (inlX3 w h)
theorem inlX4 : ∀ w ∈ wsX40, w ∈ wsL_law := fun _ h => List.mem_append_left _ (List.mem_append_left _ (List.mem_append_left _ (List.mem_append_left _ (List.mem_append_left _ (List.mem_append_left _ (List.mem_append_right _ h))))))
theorem inX4 : ∀ w ∈ wsX40, w ∈ lw_tbl := fun w h => wsL_law_in w (inlX4 w h)
theorem inlX5 : ∀ w ∈ wsX50, w ∈ wsL_law := fun _ h => List.mem_append_left _ (List.mem_append_left _ (List.mem_append_left _ (List.mem_append_left _ (List.mem_append_left _ (List.mem_append_right _ h)))))
theorem inX5 : ∀ w ∈ wsX50, w ∈ lw_tbl := fun w h => wsL_law_in w (inlX5 w h)
theorem inJx8e188 : ∀ w ∈ wsJx8e1880, w ∈ lw_tbl := by decide +kernel
theorem inJ6 : ∀ w ∈ wsJ60, w ∈ lw_tbl := by decide +kernel
theorem inJ9 : ∀ w ∈ wsJ90, w ∈ lw_tbl := by decide +kernel
theorem inJ10 : ∀ w ∈ wsJ100, w ∈ lw_tbl := by decide +kernel
theorem inJ7 : ∀ w ∈ wsJ70, w ∈ lw_tbl := by decide +kernel
