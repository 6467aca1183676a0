/-! 23.words: what the law needs of the tables -/
set_option maxRecDepth 20000 in
theorem in_wsL_law0_r1 : ∀ w ∈ wsL_law0_r1, w ∈ lw_tbl := fun w h => (goodIn_r (big := lw_tbl) wsL_law0_r1 [26, 27, 5, 92, 390, 391, 604, 28, 29, 30, 31, 32, 33, 34, 35, 6, 164, 49, 50, 7, 165, 63, 64, 8] (by decide +kernel) (by decide +kernel) w h).1
set_option maxRecDepth 20000 in
theorem in_wsL_law0_r2 : ∀ w ∈ wsL_law0_r2, w ∈ lw_tbl := fun w h => (goodIn_r (big := lw_tbl) wsL_law0_r2 [166, 93, 94, 9, 167, 37, 38, 39, 40, 42, 52, 53, 54, 65, 66, 67, 68, 69, 71, 73, 74, 95, 96, 97] (by decide +kernel) (by decide +kernel) w h).1
set_option maxRecDepth 20000 in
theorem in_wsL_law0_r3 : ∀ w ∈ wsL_law0_r3, w ∈ lw_tbl := fun w h => (goodIn_r (big := lw_tbl) wsL_law0_r3 [98, 99, 100, 10, 120, 115, 121, 122, 123, 124, 117, 118, 119, 102, 103, 104, 105, 107, 633, 634, 4, 635, 641, 636] (by decide +kernel) (by decide +kernel) w h).1
set_option maxRecDepth 20000 in
theorem in_wsL_law0_r4 : ∀ w ∈ wsL_law0_r4, w ∈ lw_tbl := fun w h => (goodIn_r (big := lw_tbl) wsL_law0_r4 [637, 638, 639, 640, 222, 223, 224, 225, 304, 305, 306, 307, 308, 310, 14, 327, 17, 343, 220, 18, 309, 198, 199, 200] (by decide +kernel) (by decide +kernel) w h).1
set_option maxRecDepth 20000 in
theorem in_wsL_law0_r5 : ∀ w ∈ wsL_law0_r5, w ∈ lw_tbl := fun w h => (goodIn_r (big := lw_tbl) wsL_law0_r5 [43, 323, 324, 325, 326, 344, 345, 346, 347, 352, 357, 354, 362, 363, 364, 348, 349, 350, 19, 351, 386, 387, 388, 389] (by decide +kernel) (by decide +kernel) w h).1
set_option maxRecDepth 20000 in
theorem in_wsL_law0_r6 : ∀ w ∈ wsL_law0_r6, w ∈ lw_tbl := fun w h => (goodIn_r (big := lw_tbl) wsL_law0_r6 [392, 393, 394, 395, 396, 397, 398, 642, 643, 644, 399, 400, 401, 402, 403, 404, 405, 406, 414, 20, 407, 408, 409, 411] (by decide +kernel) (by decide +kernel) w h).1
set_option maxRecDepth 20000 in
theorem in_wsL_law0_r7 : ∀ w ∈ wsL_law0_r7, w ∈ lw_tbl := fun w h => (goodIn_r (big := lw_tbl) wsL_law0_r7 [412, 413, 430, 431, 432, 433, 355, 353, 201, 202, 203, 204, 434, 435, 436, 437, 359, 209, 210, 211, 212, 438, 440, 2] (by decide +kernel) (by decide +kernel) w h).1
set_option maxRecDepth 20000 in
theorem in_wsL_law0_r8 : ∀ w ∈ wsL_law0_r8, w ∈ lw_tbl := fun w h => (goodIn_r (big := lw_tbl) wsL_law0_r8 [441, 366, 442, 443, 444, 445, 446, 447, 448, 645, 646, 647, 648, 649, 650, 449, 450, 451, 452, 453, 454, 455, 457, 458] (by decide +kernel) (by decide +kernel) w h).1
set_option maxRecDepth 20000 in
theorem in_wsL_law0_r9 : ∀ w ∈ wsL_law0_r9, w ∈ lw_tbl := fun w h => (goodIn_r (big := lw_tbl) wsL_law0_r9 [459, 460, 358, 461, 462, 463, 464, 465, 466, 467, 468, 469, 470, 471, 472, 473, 474, 475, 476, 477, 478, 479, 480, 481] (by decide +kernel) (by decide +kernel) w h).1
set_option maxRecDepth 20000 in
theorem in_wsL_law0_r10 : ∀ w ∈ wsL_law0_r10, w ∈ lw_tbl := fun w h => (goodIn_r (big := lw_tbl) wsL_law0_r10 [482, 483, 484, 486, 3, 487, 488, 489, 490, 491, 492, 651, 652, 653, 654, 655, 656, 657, 658, 659, 539, 540, 541, 542] (by decide +kernel) (by decide +kernel) w h).1
set_option maxRecDepth 20000 in
theorem in_wsL_law0_r11 : ∀ w ∈ wsL_law0_r11, w ∈ lw_tbl := fun w h => (goodIn_r (big := lw_tbl) wsL_law0_r11 [543, 544, 545, 546, 547, 548, 549, 550, 551, 552, 553, 535, 536, 537, 538, 669, 670, 671, 666, 667, 668, 554, 555, 556] (by decide +kernel) (by decide +kernel) w h).1
set_option maxRecDepth 20000 in
theorem in_wsL_law0_r12 : ∀ w ∈ wsL_law0_r12, w ∈ lw_tbl := fun w h => (goodIn_r (big := lw_tbl) wsL_law0_r12 [557, 558, 559, 560, 361, 684, 685, 686, 16, 687, 743, 688, 689, 690, 691, 692, 742, 694, 695, 21, 696, 697, 698, 699] (by decide +kernel) (by decide +kernel) w h).1
set_option maxRecDepth 20000 in
theorem in_wsL_law0_r13 : ∀ w ∈ wsL_law0_r13, w ∈ lw_tbl := fun w h => (goodIn_r (big := lw_tbl) wsL_law0_r13 [700, 702, 703, 22, 704, 705, 706, 23, 707, 708, 709, 710, 711, 712, 713, 714, 715, 716, 717, 718, 720, 722, 605, 606] (by decide +kernel) (by decide +kernel) w h).1
set_option maxRecDepth 20000 in
theorem in_wsL_law0_r14 : ∀ w ∈ wsL_law0_r14, w ∈ lw_tbl := fun w h => (goodIn_r (big := lw_tbl) wsL_law0_r14 [607, 608, 609, 610, 611, 612, 613, 614, 615, 616, 617, 619, 621, 622, 623, 624, 625, 493, 494, 495, 496, 497, 498, 499] (by decide +kernel) (by decide +kernel) w h).1
set_option maxRecDepth 20000 in
theorem in_wsL_law0_r15 : ∀ w ∈ wsL_law0_r15, w ∈ lw_tbl := fun w h => (goodIn_r (big := lw_tbl) wsL_law0_r15 [500, 508, 24, 507, 501, 502, 503, 504, 505, 506, 660, 661, 662, 524, 525, 526, 527, 528, 529, 530, 531, 532, 533, 534] (by decide +kernel) (by decide +kernel) w h).1
set_option maxRecDepth 20000 in
theorem in_wsL_law0_r16 : ∀ w ∈ wsL_law0_r16, w ∈ lw_tbl := fun w h => (goodIn_r (big := lw_tbl) wsL_law0_r16 [663, 664, 665, 672, 673, 674, 675, 676, 677, 582, 678, 679, 680, 681, 588, 25, 682, 214, 215, 216, 579, 580, 581, 583] (by decide +kernel) (by decide +kernel) w h).1
set_option maxRecDepth 20000 in
theorem in_wsL_law0_r17 : ∀ w ∈ wsL_law0_r17, w ∈ lw_tbl := fun w h => (goodIn_r (big := lw_tbl) wsL_law0_r17 [584, 585, 586, 587, 572, 573, 574, 575, 576, 577, 578, 365, 177, 178, 179, 180, 181, 182, 183, 184, 72, 744, 745, 185] (by decide +kernel) (by decide +kernel) w h).1
set_option maxRecDepth 20000 in
theorem in_wsL_law0_r18 : ∀ w ∈ wsL_law0_r18, w ∈ lw_tbl := fun w h => (goodIn_r (big := lw_tbl) wsL_law0_r18 [186, 187, 188, 189, 190, 191, 192, 55, 193, 194, 195, 196, 197, 205, 206, 207, 208, 213, 217, 219, 0, 221, 561, 562] (by decide +kernel) (by decide +kernel) w h).1
set_option maxRecDepth 20000 in
theorem in_wsL_law0_r19 : ∀ w ∈ wsL_law0_r19, w ∈ lw_tbl := fun w h => (goodIn_r (big := lw_tbl) wsL_law0_r19 [563, 564, 565, 566, 567, 568, 569, 570, 571, 360, 626, 627, 628, 629, 630, 631, 632, 356] (by decide +kernel) (by decide +kernel) w h).1
theorem inX_X11 : ∀ w ∈ wsX110, w ∈ lw_tbl := by decide +kernel
theorem inX_X8 : ∀ w ∈ wsX80, w ∈ lw_tbl := by decide +kernel
theorem inX_X2 : ∀ w ∈ wsX20, w ∈ lw_tbl := by decide +kernel
theorem inX_X5 : ∀ w ∈ wsX50, w ∈ lw_tbl := by decide +kernel
theorem inX_X3 : ∀ w ∈ wsX30, w ∈ lw_tbl := by decide +kernel
theorem inX_X10 : ∀ w ∈ wsX100, w ∈ lw_tbl := by decide +kernel
theorem inX_X7 : ∀ w ∈ wsX70, w ∈ lw_tbl := by decide +kernel
theorem inX_J0 : ∀ w ∈ wsJ00, w ∈ lw_tbl := by decide +kernel
theorem inR : ∀ w ∈ (wsL_law0_r1 ++ (wsL_law0_r2 ++ (wsL_law0_r3 ++ (wsL_law0_r4 ++ (wsL_law0_r5 ++ (wsL_law0_r6 ++ (wsL_law0_r7 ++ (wsL_law0_r8 ++ (wsL_law0_r9 ++ (wsL_law0_r10 ++ (wsL_law0_r11 ++ (wsL_law0_r12 ++ (wsL_law0_r13 ++ (wsL_law0_r14 ++ (wsL_law0_r15 ++ (wsL_law0_r16 ++ (wsL_law0_r17 ++ (wsL_law0_r18 ++ (wsL_law0_r19))))))))))))))))))), w ∈ lw_tbl := fun w h => (List.mem_append.mp h).elim (fun h => in_wsL_law0_r1 w h) (fun h => (List.mem_append.mp h).elim (fun h => in_wsL_law0_r2 w h) (fun h => (List.mem_append.mp h).elim (fun h => in_wsL_law0_r3 w h) (fun h => (List.mem_append.mp h).elim (fun h => in_wsL_law0_r4 w h) (fun h => (List.mem_append.mp h).elim (fun h => in_wsL_law0_r5 w h) (fun h => (List.mem_append.mp h).elim (fun h => in_wsL_law0_r6 w h) (fun h => (List.mem_append.mp h).elim (fun h => in_wsL_law0_r7 w h) (fun h => (List.mem_append.mp h).elim (fun h => in_wsL_law0_r8 w h) (fun h => (List.mem_append.mp h).elim (fun h => in_wsL_law0_r9 w h) (fun h => (List.mem_append.mp h).elim (fun h => in_wsL_law0_r10 w h) (fun h => (List.mem_append.mp h).elim (fun h => in_wsL_law0_r11 w h) (fun h => (List.mem_append.mp h).elim (fun h => in_wsL_law0_r12 w h) (fun h => (List.mem_append.mp h).elim (fun h => in_wsL_law0_r13 w h) (fun h => (List.mem_append.mp h).elim (fun h => in_wsL_law0_r14 w h) (fun h => (List.mem_append.mp h).elim (fun h => in_wsL_law0_r15 w h) (fun h => (List.mem_append.mp h).elim (fun h => in_wsL_law0_r16 w h) (fun h => (List.mem_append.mp h).elim (fun h => in_wsL_law0_r17 w h) (fun h => (List.mem_append.mp h).elim (fun h => in_wsL_law0_r18 w h) (fun h => in_wsL_law0_r19 w h))))))))))))))))))
theorem wsL_law_in0 : ∀ w ∈ wsL_law0, w ∈ lw_tbl := fun w h => (List.mem_append.mp h).elim (fun h => (List.mem_append.mp h).elim (fun h => (List.mem_append.mp h).elim (fun h => (List.mem_append.mp h).elim (fun h => (List.mem_append.mp h).elim (fun h => (List.mem_append.mp h).elim (fun h => (List.mem_append.mp h).elim (fun h => (List.mem_append.mp h).elim (fun h => (List.mem_append.mp h).elim (fun h => inR w h) (fun h => inX_X11 w h)) (fun h => inX_X8 w h)) (fun h => inX_X2 w h)) (fun h => inX_X5 w h)) (fun h => inX_X3 w h)) (fun h => inX_X10 w h)) (fun h => inX_X7 w h)) (fun h => inX_J0 w h)) (fun h => absurd h List.not_mem_nil)
