/-! ===== the law's words are among the tables', by place ===== -/
theorem zmem_pick {big ws : List Cond} (ps : List Nat) (hp : ws = ps.filterMap (fun i => big[i]?)) : ∀ w ∈ ws, w ∈ big := by
  intro w hw
  rw [hp] at hw
  obtain ⟨i, -, hi⟩ := List.mem_filterMap.mp hw
  exact List.mem_of_getElem? hi
set_option maxRecDepth 20000 in
theorem in_wsL_law_r1 : ∀ w ∈ wsL_law_r1, w ∈ lw_tbl := zmem_pick [75, 76, 67, 546, 547, 73, 77, 78, 79, 80, 81, 82, 117, 217, 218, 83, 84, 68, 219, 148, 90, 69, 220, 150] (by decide +kernel)
set_option maxRecDepth 20000 in
theorem in_wsL_law_r2 : ∀ w ∈ wsL_law_r2, w ∈ lw_tbl := zmem_pick [151, 70, 221, 166, 167, 71, 222, 193, 194, 72, 223, 224, 225, 226, 86, 87, 88, 89, 119, 121, 122, 118, 123, 124] (by decide +kernel)
set_option maxRecDepth 20000 in
theorem in_wsL_law_r3 : ∀ w ∈ wsL_law_r3, w ∈ lw_tbl := zmem_pick [125, 126, 127, 128, 92, 93, 94, 95, 97, 99, 101, 103, 153, 154, 155, 156, 157, 169, 170, 171, 172, 174, 175, 176] (by decide +kernel)
set_option maxRecDepth 20000 in
theorem in_wsL_law_r4 : ∀ w ∈ wsL_law_r4, w ∈ lw_tbl := zmem_pick [177, 178, 179, 196, 197, 198, 199, 203, 204, 206, 201, 207, 548, 549, 550, 551, 553, 555, 556, 557, 559, 560, 561, 563] (by decide +kernel)
set_option maxRecDepth 20000 in
theorem in_wsL_law_r5 : ∀ w ∈ wsL_law_r5, w ∈ lw_tbl := zmem_pick [565, 567, 568, 569, 572, 574, 575, 576, 578, 579, 580, 248, 249, 250, 251, 640, 641, 642, 643, 552, 252, 253, 254, 255] (by decide +kernel)
set_option maxRecDepth 20000 in
theorem in_wsL_law_r6 : ∀ w ∈ wsL_law_r6, w ∈ lw_tbl := zmem_pick [258, 0, 259, 262, 1, 263, 264, 266, 2, 267, 268, 270, 3, 271, 272, 274, 4, 275, 290, 277, 278, 279, 280, 281] (by decide +kernel)
set_option maxRecDepth 20000 in
theorem in_wsL_law_r7 : ∀ w ∈ wsL_law_r7, w ∈ lw_tbl := zmem_pick [282, 284, 5, 285, 288, 6, 289, 291, 293, 7, 294, 295, 297, 8, 298, 300, 301, 302, 304, 9, 305, 306, 308, 10] (by decide +kernel)
set_option maxRecDepth 20000 in
theorem in_wsL_law_r8 : ∀ w ∈ wsL_law_r8, w ∈ lw_tbl := zmem_pick [309, 312, 11, 313, 314, 316, 12, 317, 318, 320, 13, 321, 322, 324, 14, 325, 326, 328, 15, 329, 330, 332, 16, 333] (by decide +kernel)
set_option maxRecDepth 20000 in
theorem in_wsL_law_r9 : ∀ w ∈ wsL_law_r9, w ∈ lw_tbl := zmem_pick [334, 336, 17, 337, 338, 340, 18, 341, 342, 344, 19, 345, 348, 20, 349, 351, 352, 74, 353, 350, 354, 357, 21, 358] (by decide +kernel)
set_option maxRecDepth 20000 in
theorem in_wsL_law_r10 : ∀ w ∈ wsL_law_r10, w ∈ lw_tbl := zmem_pick [359, 361, 22, 362, 644, 645, 646, 647, 558, 554, 648, 650, 47, 651, 652, 653, 654, 655, 656, 657, 658, 660, 48, 661] (by decide +kernel)
set_option maxRecDepth 20000 in
theorem in_wsL_law_r11 : ∀ w ∈ wsL_law_r11, w ∈ lw_tbl := zmem_pick [562, 564, 682, 566, 662, 664, 49, 665, 666, 668, 50, 669, 670, 672, 51, 673, 674, 676, 52, 677, 678, 680, 53, 681] (by decide +kernel)
set_option maxRecDepth 20000 in
theorem in_wsL_law_r12 : ∀ w ∈ wsL_law_r12, w ∈ lw_tbl := zmem_pick [683, 685, 54, 686, 687, 689, 55, 690, 573, 363, 364, 365, 366, 691, 692, 693, 694, 367, 368, 369, 370, 371, 372, 373] (by decide +kernel)
set_option maxRecDepth 20000 in
theorem in_wsL_law_r13 : ∀ w ∈ wsL_law_r13, w ∈ lw_tbl := zmem_pick [376, 23, 377, 378, 695, 696, 697, 698, 379, 380, 381, 382, 699, 700, 701, 702, 570, 383, 384, 385, 386, 387, 390, 24] (by decide +kernel)
set_option maxRecDepth 20000 in
theorem in_wsL_law_r14 : ∀ w ∈ wsL_law_r14, w ∈ lw_tbl := zmem_pick [391, 703, 704, 705, 706, 571, 392, 393, 394, 395, 398, 25, 399, 707, 708, 709, 710, 400, 401, 402, 403, 456, 406, 26] (by decide +kernel)
set_option maxRecDepth 20000 in
theorem in_wsL_law_r15 : ∀ w ∈ wsL_law_r15, w ∈ lw_tbl := zmem_pick [407, 408, 410, 27, 411, 412, 414, 28, 415, 423, 416, 417, 418, 421, 29, 422, 424, 425, 426, 427, 429, 30, 430, 431] (by decide +kernel)
set_option maxRecDepth 20000 in
theorem in_wsL_law_r16 : ∀ w ∈ wsL_law_r16, w ∈ lw_tbl := zmem_pick [432, 434, 31, 435, 436, 438, 32, 439, 440, 442, 33, 443, 444, 446, 34, 447, 448, 450, 35, 451, 454, 36, 455, 711] (by decide +kernel)
set_option maxRecDepth 20000 in
theorem in_wsL_law_r17 : ∀ w ∈ wsL_law_r17, w ∈ lw_tbl := zmem_pick [712, 713, 714, 731, 715, 717, 56, 718, 719, 721, 57, 722, 723, 725, 58, 726, 727, 729, 59, 730, 732, 734, 60, 735] (by decide +kernel)
set_option maxRecDepth 20000 in
theorem in_wsL_law_r18 : ∀ w ∈ wsL_law_r18, w ∈ lw_tbl := zmem_pick [736, 737, 738, 739, 741, 61, 742, 457, 458, 459, 460, 743, 744, 745, 746, 747, 749, 62, 750, 751, 752, 754, 63, 755] (by decide +kernel)
set_option maxRecDepth 20000 in
theorem in_wsL_law_r19 : ∀ w ∈ wsL_law_r19, w ∈ lw_tbl := zmem_pick [461, 462, 463, 464, 756, 757, 758, 759, 465, 466, 467, 468, 760, 761, 762, 763, 469, 470, 471, 472, 764, 765, 766, 767] (by decide +kernel)
set_option maxRecDepth 20000 in
theorem in_wsL_law_r20 : ∀ w ∈ wsL_law_r20, w ∈ lw_tbl := zmem_pick [473, 474, 475, 476, 479, 37, 480, 481, 483, 38, 484, 487, 39, 488, 489, 490, 493, 40, 494, 495, 496, 768, 769, 770] (by decide +kernel)
set_option maxRecDepth 20000 in
theorem in_wsL_law_r21 : ∀ w ∈ wsL_law_r21, w ∈ lw_tbl := zmem_pick [771, 577, 772, 773, 774, 775, 776, 778, 64, 779, 497, 498, 499, 500, 780, 781, 782, 783, 501, 502, 503, 504, 507, 41] (by decide +kernel)
set_option maxRecDepth 20000 in
theorem in_wsL_law_r22 : ∀ w ∈ wsL_law_r22, w ∈ lw_tbl := zmem_pick [508, 509, 511, 42, 512, 513, 514, 515, 516, 518, 519, 520, 784, 521, 522, 523, 524, 527, 43, 528, 529, 785, 786, 787] (by decide +kernel)
set_option maxRecDepth 20000 in
theorem in_wsL_law_r23 : ∀ w ∈ wsL_law_r23, w ∈ lw_tbl := zmem_pick [788, 530, 531, 532, 533, 536, 44, 537, 538, 540, 45, 541, 542, 544, 46, 545, 789, 790, 791, 792, 793, 795, 65, 796] (by decide +kernel)
set_option maxRecDepth 20000 in
theorem in_wsX00 : ∀ w ∈ wsX00, w ∈ lw_tbl := zmem_pick [180, 182, 184, 186, 188, 190] (by decide +kernel)
set_option maxRecDepth 20000 in
theorem in_wsX10 : ∀ w ∈ wsX10, w ∈ lw_tbl := zmem_pick [208, 210, 212, 214] (by decide +kernel)
set_option maxRecDepth 20000 in
theorem in_wsX20 : ∀ w ∈ wsX20, w ∈ lw_tbl := zmem_pick [129, 131, 133, 135, 137, 139, 141, 143, 145] (by decide +kernel)
set_option maxRecDepth 20000 in
theorem in_wsX30 : ∀ w ∈ wsX30, w ∈ lw_tbl := zmem_pick [161, 163] (by decide +kernel)
set_option maxRecDepth 20000 in
theorem in_wsX40 : ∀ w ∈ wsX40, w ∈ lw_tbl := zmem_pick [106, 108, 110, 112, 114] (by decide +kernel)
set_option maxRecDepth 20000 in
theorem in_wsX50 : ∀ w ∈ wsX50, w ∈ lw_tbl := zmem_pick [227, 229, 231, 233, 235, 237, 239, 241, 243, 245] (by decide +kernel)
set_option maxRecDepth 20000 in
theorem in_wsX60 : ∀ w ∈ wsX60, w ∈ lw_tbl := zmem_pick [581, 583, 585, 587, 589, 591, 593, 595, 597, 599, 601, 603, 605, 607, 609, 611, 613, 615, 617, 619, 621, 623, 625, 627, 629, 631, 633, 635, 637] (by decide +kernel)
theorem wsL_law_in : ∀ w ∈ wsL_law, w ∈ lw_tbl := by
  unfold wsL_law
  exact List.forall_mem_append.mpr ⟨(List.forall_mem_append.mpr ⟨(List.forall_mem_append.mpr ⟨(List.forall_mem_append.mpr ⟨(List.forall_mem_append.mpr ⟨(List.forall_mem_append.mpr ⟨(List.forall_mem_append.mpr ⟨(List.forall_mem_append.mpr ⟨(List.forall_mem_append.mpr ⟨in_wsL_law_r1, (List.forall_mem_append.mpr ⟨in_wsL_law_r2, (List.forall_mem_append.mpr ⟨in_wsL_law_r3, (List.forall_mem_append.mpr ⟨in_wsL_law_r4, (List.forall_mem_append.mpr ⟨in_wsL_law_r5, (List.forall_mem_append.mpr ⟨in_wsL_law_r6, (List.forall_mem_append.mpr ⟨in_wsL_law_r7, (List.forall_mem_append.mpr ⟨in_wsL_law_r8, (List.forall_mem_append.mpr ⟨in_wsL_law_r9, (List.forall_mem_append.mpr ⟨in_wsL_law_r10, (List.forall_mem_append.mpr ⟨in_wsL_law_r11, (List.forall_mem_append.mpr ⟨in_wsL_law_r12, (List.forall_mem_append.mpr ⟨in_wsL_law_r13, (List.forall_mem_append.mpr ⟨in_wsL_law_r14, (List.forall_mem_append.mpr ⟨in_wsL_law_r15, (List.forall_mem_append.mpr ⟨in_wsL_law_r16, (List.forall_mem_append.mpr ⟨in_wsL_law_r17, (List.forall_mem_append.mpr ⟨in_wsL_law_r18, (List.forall_mem_append.mpr ⟨in_wsL_law_r19, (List.forall_mem_append.mpr ⟨in_wsL_law_r20, (List.forall_mem_append.mpr ⟨in_wsL_law_r21, (List.forall_mem_append.mpr ⟨in_wsL_law_r22, in_wsL_law_r23⟩)⟩)⟩)⟩)⟩)⟩)⟩)⟩)⟩)⟩)⟩)⟩)⟩)⟩)⟩)⟩)⟩)⟩)⟩)⟩)⟩)⟩), in_wsX50⟩), in_wsX60⟩), in_wsX20⟩), in_wsX40⟩), in_wsX30⟩), in_wsX00⟩), in_wsX10⟩), fun _ h => absurd h List.not_mem_nil⟩
theorem inX0 : ∀ w ∈ wsX00, w ∈ lw_tbl := in_wsX00
theorem inX1 : ∀ w ∈ wsX10, w ∈ lw_tbl := in_wsX10
theorem inX2 : ∀ w ∈ wsX20, w ∈ lw_tbl := in_wsX20
theorem inX3 : ∀ w ∈ wsX30, w ∈ lw_tbl := in_wsX30
theorem inX4 : ∀ w ∈ wsX40, w ∈ lw_tbl := in_wsX40
theorem inX5 : ∀ w ∈ wsX50, w ∈ lw_tbl := in_wsX50
theorem inX6 : ∀ w ∈ wsX60, w ∈ lw_tbl := in_wsX60
set_option maxRecDepth 20000 in
theorem zNF_in : ∀ w ∈ zNF.map (fun q => Cond.fieldLinkNest q.1 q.2.1 q.2.2.1 q.2.2.2.1 q.2.2.2.2 "FuzzyFinder"), w ∈ lw_tbl := zmem_pick [96, 98, 100, 102, 104, 105, 120, 158, 159, 160, 205] (by decide +kernel)
set_option maxRecDepth 20000 in
theorem zNM_in : ∀ w ∈ zNM.map (fun q => Cond.methodLinkNest q.1 q.2.1 q.2.2 "FuzzyFinder"), w ∈ lw_tbl := zmem_pick [85, 91, 149, 152, 168, 195, 202, 256, 260, 276, 286, 299, 310, 346, 355, 374, 388, 396, 404, 419, 452, 477, 485, 491, 505, 517, 525, 534] (by decide +kernel)
