-- ===== PART A: goes FIRST, ahead of the names: the tables' words, and 'selects' of the private methods out of them =====
/-- a private method of a class that the tables say can be made, by its rows of tables_1 -/
def lw_okq (q : MethodName × Nat) : Prop := (q.1.cls ≠ "java/lang/invoke/MethodHandle" ∧ q.1.cls ≠ "java/lang/invoke/VarHandle") ∧ Cond.instantiable q.1.cls q.2 ∈ tables_1 ∧ Cond.privateMethod q.1 ∈ tables_1 ∧ Cond.instanceMethod q.1 ∈ tables_1
theorem lw_p0 : lw_okq (⟨"java/lang/Throwable", "fillInStackTrace", "(I)Ljava/lang/Throwable;"⟩, 6) := ⟨⟨by decide +kernel, by decide +kernel⟩, List.mem_of_getElem? (i := 153) (by decide +kernel), List.mem_of_getElem? (i := 151) (by decide +kernel), List.mem_of_getElem? (i := 152) (by decide +kernel)⟩
theorem lw_p1 : lw_okq (⟨"Leavebank", "personAt", "(I)LLeavebank$Person;"⟩, 8) := ⟨⟨by decide +kernel, by decide +kernel⟩, List.mem_of_getElem? (i := 14) (by decide +kernel), List.mem_of_getElem? (i := 269) (by decide +kernel), List.mem_of_getElem? (i := 270) (by decide +kernel)⟩
theorem lw_p2 : lw_okq (⟨"Leavebank$Person", "findLeave", "(I)I"⟩, 15) := ⟨⟨by decide +kernel, by decide +kernel⟩, List.mem_of_getElem? (i := 202) (by decide +kernel), List.mem_of_getElem? (i := 353) (by decide +kernel), List.mem_of_getElem? (i := 354) (by decide +kernel)⟩
theorem lw_p3 : lw_okq (⟨"Leavebank$Person", "isSickOn", "(I)Z"⟩, 15) := ⟨⟨by decide +kernel, by decide +kernel⟩, List.mem_of_getElem? (i := 202) (by decide +kernel), List.mem_of_getElem? (i := 360) (by decide +kernel), List.mem_of_getElem? (i := 361) (by decide +kernel)⟩
theorem lw_p4 : lw_okq (⟨"Leavebank", "requestAt", "(I)LLeavebank$Request;"⟩, 8) := ⟨⟨by decide +kernel, by decide +kernel⟩, List.mem_of_getElem? (i := 14) (by decide +kernel), List.mem_of_getElem? (i := 375) (by decide +kernel), List.mem_of_getElem? (i := 376) (by decide +kernel)⟩
theorem lw_p5 : lw_okq (⟨"Leavebank$Ledger", "clear", "()V"⟩, 11) := ⟨⟨by decide +kernel, by decide +kernel⟩, List.mem_of_getElem? (i := 26) (by decide +kernel), List.mem_of_getElem? (i := 414) (by decide +kernel), List.mem_of_getElem? (i := 415) (by decide +kernel)⟩
theorem lw_p6 : lw_okq (⟨"Leavebank$Ledger", "earn", "(II)V"⟩, 11) := ⟨⟨by decide +kernel, by decide +kernel⟩, List.mem_of_getElem? (i := 26) (by decide +kernel), List.mem_of_getElem? (i := 431) (by decide +kernel), List.mem_of_getElem? (i := 432) (by decide +kernel)⟩
theorem lw_p7 : lw_okq (⟨"Leavebank$Ledger", "expireOn", "(I)V"⟩, 11) := ⟨⟨by decide +kernel, by decide +kernel⟩, List.mem_of_getElem? (i := 26) (by decide +kernel), List.mem_of_getElem? (i := 435) (by decide +kernel), List.mem_of_getElem? (i := 436) (by decide +kernel)⟩
theorem lw_p8 : lw_okq (⟨"Leavebank$Ledger", "take", "(I)V"⟩, 11) := ⟨⟨by decide +kernel, by decide +kernel⟩, List.mem_of_getElem? (i := 26) (by decide +kernel), List.mem_of_getElem? (i := 443) (by decide +kernel), List.mem_of_getElem? (i := 444) (by decide +kernel)⟩
theorem lw_p9 : lw_okq (⟨"Leavebank$Ledger", "drawFromLots", "(I)I"⟩, 11) := ⟨⟨by decide +kernel, by decide +kernel⟩, List.mem_of_getElem? (i := 26) (by decide +kernel), List.mem_of_getElem? (i := 452) (by decide +kernel), List.mem_of_getElem? (i := 453) (by decide +kernel)⟩
theorem lw_p10 : lw_okq (⟨"Leavebank$Ledger", "payOn", "(LLeavebank$Person;I)V"⟩, 11) := ⟨⟨by decide +kernel, by decide +kernel⟩, List.mem_of_getElem? (i := 26) (by decide +kernel), List.mem_of_getElem? (i := 456) (by decide +kernel), List.mem_of_getElem? (i := 457) (by decide +kernel)⟩
theorem lw_p11 : lw_okq (⟨"Leavebank", "ledgerBehind", "(II)LLeavebank$Ledger;"⟩, 8) := ⟨⟨by decide +kernel, by decide +kernel⟩, List.mem_of_getElem? (i := 14) (by decide +kernel), List.mem_of_getElem? (i := 508) (by decide +kernel), List.mem_of_getElem? (i := 509) (by decide +kernel)⟩
theorem lw_p12 : lw_okq (⟨"LeavebankModel", "fails", "(I)I"⟩, 30) := ⟨⟨by decide +kernel, by decide +kernel⟩, List.mem_of_getElem? (i := 572) (by decide +kernel), List.mem_of_getElem? (i := 681) (by decide +kernel), List.mem_of_getElem? (i := 682) (by decide +kernel)⟩
theorem lw_p13 : lw_okq (⟨"LeavebankModel", "isPerson", "(I)Z"⟩, 30) := ⟨⟨by decide +kernel, by decide +kernel⟩, List.mem_of_getElem? (i := 572) (by decide +kernel), List.mem_of_getElem? (i := 689) (by decide +kernel), List.mem_of_getElem? (i := 690) (by decide +kernel)⟩
theorem lw_p14 : lw_okq (⟨"LeavebankModel", "hoursOn", "(II)I"⟩, 30) := ⟨⟨by decide +kernel, by decide +kernel⟩, List.mem_of_getElem? (i := 572) (by decide +kernel), List.mem_of_getElem? (i := 693) (by decide +kernel), List.mem_of_getElem? (i := 694) (by decide +kernel)⟩
theorem lw_p15 : lw_okq (⟨"LeavebankModel", "areDays", "(III)Z"⟩, 30) := ⟨⟨by decide +kernel, by decide +kernel⟩, List.mem_of_getElem? (i := 572) (by decide +kernel), List.mem_of_getElem? (i := 701) (by decide +kernel), List.mem_of_getElem? (i := 702) (by decide +kernel)⟩
def lw_privs_1 : List (MethodName × Nat) := [(⟨"java/lang/Throwable", "fillInStackTrace", "(I)Ljava/lang/Throwable;"⟩, 6), (⟨"Leavebank", "personAt", "(I)LLeavebank$Person;"⟩, 8), (⟨"Leavebank$Person", "findLeave", "(I)I"⟩, 15), (⟨"Leavebank$Person", "isSickOn", "(I)Z"⟩, 15), (⟨"Leavebank", "requestAt", "(I)LLeavebank$Request;"⟩, 8), (⟨"Leavebank$Ledger", "clear", "()V"⟩, 11), (⟨"Leavebank$Ledger", "earn", "(II)V"⟩, 11), (⟨"Leavebank$Ledger", "expireOn", "(I)V"⟩, 11), (⟨"Leavebank$Ledger", "take", "(I)V"⟩, 11), (⟨"Leavebank$Ledger", "drawFromLots", "(I)I"⟩, 11), (⟨"Leavebank$Ledger", "payOn", "(LLeavebank$Person;I)V"⟩, 11), (⟨"Leavebank", "ledgerBehind", "(II)LLeavebank$Ledger;"⟩, 8), (⟨"LeavebankModel", "fails", "(I)I"⟩, 30), (⟨"LeavebankModel", "isPerson", "(I)Z"⟩, 30), (⟨"LeavebankModel", "hoursOn", "(II)I"⟩, 30), (⟨"LeavebankModel", "areDays", "(III)Z"⟩, 30)]
theorem lw_r1 : ∀ q ∈ lw_privs_1, lw_okq q := List.forall_mem_cons.mpr ⟨lw_p0, List.forall_mem_cons.mpr ⟨lw_p1, List.forall_mem_cons.mpr ⟨lw_p2, List.forall_mem_cons.mpr ⟨lw_p3, List.forall_mem_cons.mpr ⟨lw_p4, List.forall_mem_cons.mpr ⟨lw_p5, List.forall_mem_cons.mpr ⟨lw_p6, List.forall_mem_cons.mpr ⟨lw_p7, List.forall_mem_cons.mpr ⟨lw_p8, List.forall_mem_cons.mpr ⟨lw_p9, List.forall_mem_cons.mpr ⟨lw_p10, List.forall_mem_cons.mpr ⟨lw_p11, List.forall_mem_cons.mpr ⟨lw_p12, List.forall_mem_cons.mpr ⟨lw_p13, List.forall_mem_cons.mpr ⟨lw_p14, List.forall_mem_cons.mpr ⟨lw_p15, fun _ h => absurd h List.not_mem_nil⟩⟩⟩⟩⟩⟩⟩⟩⟩⟩⟩⟩⟩⟩⟩⟩
theorem lw_p16 : lw_okq (⟨"LeavebankModel", "goes", "(II)V"⟩, 30) := ⟨⟨by decide +kernel, by decide +kernel⟩, List.mem_of_getElem? (i := 572) (by decide +kernel), List.mem_of_getElem? (i := 721) (by decide +kernel), List.mem_of_getElem? (i := 722) (by decide +kernel)⟩
theorem lw_p17 : lw_okq (⟨"LeavebankModel", "dayOf", "(II)V"⟩, 30) := ⟨⟨by decide +kernel, by decide +kernel⟩, List.mem_of_getElem? (i := 572) (by decide +kernel), List.mem_of_getElem? (i := 725) (by decide +kernel), List.mem_of_getElem? (i := 726) (by decide +kernel)⟩
theorem lw_p18 : lw_okq (⟨"LeavebankModel", "earns", "(II)V"⟩, 30) := ⟨⟨by decide +kernel, by decide +kernel⟩, List.mem_of_getElem? (i := 572) (by decide +kernel), List.mem_of_getElem? (i := 729) (by decide +kernel), List.mem_of_getElem? (i := 730) (by decide +kernel)⟩
theorem lw_p19 : lw_okq (⟨"LeavebankModel", "leaves", "(II)V"⟩, 30) := ⟨⟨by decide +kernel, by decide +kernel⟩, List.mem_of_getElem? (i := 572) (by decide +kernel), List.mem_of_getElem? (i := 733) (by decide +kernel), List.mem_of_getElem? (i := 734) (by decide +kernel)⟩
theorem lw_p20 : lw_okq (⟨"LeavebankModel", "leaveOn", "(II)I"⟩, 30) := ⟨⟨by decide +kernel, by decide +kernel⟩, List.mem_of_getElem? (i := 572) (by decide +kernel), List.mem_of_getElem? (i := 737) (by decide +kernel), List.mem_of_getElem? (i := 738) (by decide +kernel)⟩
theorem lw_p21 : lw_okq (⟨"LeavebankModel", "isIll", "(II)Z"⟩, 30) := ⟨⟨by decide +kernel, by decide +kernel⟩, List.mem_of_getElem? (i := 572) (by decide +kernel), List.mem_of_getElem? (i := 744) (by decide +kernel), List.mem_of_getElem? (i := 745) (by decide +kernel)⟩
theorem lw_p22 : lw_okq (⟨"LeavebankModel", "inPools", "()I"⟩, 30) := ⟨⟨by decide +kernel, by decide +kernel⟩, List.mem_of_getElem? (i := 572) (by decide +kernel), List.mem_of_getElem? (i := 748) (by decide +kernel), List.mem_of_getElem? (i := 749) (by decide +kernel)⟩
theorem lw_p23 : lw_okq (⟨"LeavebankModel", "draws", "(I)I"⟩, 30) := ⟨⟨by decide +kernel, by decide +kernel⟩, List.mem_of_getElem? (i := 572) (by decide +kernel), List.mem_of_getElem? (i := 752) (by decide +kernel), List.mem_of_getElem? (i := 753) (by decide +kernel)⟩
theorem lw_p24 : lw_okq (⟨"LeavebankModel", "isAsked", "(II)Z"⟩, 30) := ⟨⟨by decide +kernel, by decide +kernel⟩, List.mem_of_getElem? (i := 572) (by decide +kernel), List.mem_of_getElem? (i := 780) (by decide +kernel), List.mem_of_getElem? (i := 781) (by decide +kernel)⟩
theorem lw_p25 : lw_okq (⟨"LeavebankModel", "isGone", "(II)Z"⟩, 30) := ⟨⟨by decide +kernel, by decide +kernel⟩, List.mem_of_getElem? (i := 572) (by decide +kernel), List.mem_of_getElem? (i := 788) (by decide +kernel), List.mem_of_getElem? (i := 789) (by decide +kernel)⟩
def lw_privs_2 : List (MethodName × Nat) := [(⟨"LeavebankModel", "goes", "(II)V"⟩, 30), (⟨"LeavebankModel", "dayOf", "(II)V"⟩, 30), (⟨"LeavebankModel", "earns", "(II)V"⟩, 30), (⟨"LeavebankModel", "leaves", "(II)V"⟩, 30), (⟨"LeavebankModel", "leaveOn", "(II)I"⟩, 30), (⟨"LeavebankModel", "isIll", "(II)Z"⟩, 30), (⟨"LeavebankModel", "inPools", "()I"⟩, 30), (⟨"LeavebankModel", "draws", "(I)I"⟩, 30), (⟨"LeavebankModel", "isAsked", "(II)Z"⟩, 30), (⟨"LeavebankModel", "isGone", "(II)Z"⟩, 30)]
theorem lw_r2 : ∀ q ∈ lw_privs_2, lw_okq q := List.forall_mem_cons.mpr ⟨lw_p16, List.forall_mem_cons.mpr ⟨lw_p17, List.forall_mem_cons.mpr ⟨lw_p18, List.forall_mem_cons.mpr ⟨lw_p19, List.forall_mem_cons.mpr ⟨lw_p20, List.forall_mem_cons.mpr ⟨lw_p21, List.forall_mem_cons.mpr ⟨lw_p22, List.forall_mem_cons.mpr ⟨lw_p23, List.forall_mem_cons.mpr ⟨lw_p24, List.forall_mem_cons.mpr ⟨lw_p25, fun _ h => absurd h List.not_mem_nil⟩⟩⟩⟩⟩⟩⟩⟩⟩⟩
def lw_privs : List (MethodName × Nat) := lw_privs_1 ++ (lw_privs_2)
def lw_tbl : List Cond := k2_sels lw_privs ++ tables_1
theorem lw_privs_ok : ∀ q ∈ lw_privs, lw_okq q := by
  show ∀ q ∈ lw_privs_1 ++ (lw_privs_2), lw_okq q
  exact List.forall_mem_append.mpr ⟨lw_r1, lw_r2⟩
theorem in_sub {big : List Cond} (ps : List Nat) : ∀ w ∈ ps.filterMap (fun i => big[i]?), w ∈ big := fun w hw => by
  obtain ⟨i, -, hi⟩ := List.mem_filterMap.mp hw
  exact List.mem_of_getElem? hi
theorem in_eq {big ws : List Cond} (ps : List Nat) (h : ws = ps.filterMap (fun i => big[i]?)) : ∀ w ∈ ws, w ∈ big := fun w hw => in_sub ps w (by rw [← h]; exact hw)
set_option maxRecDepth 20000 in
theorem wi_r1 : ∀ w ∈ wsL_law0_r1, w ∈ lw_tbl := in_eq [39, 40, 27, 597, 598, 29, 849, 41, 42, 43, 44, 45, 46, 47, 98, 49, 100, 51, 52, 28, 105, 54, 55, 56] (by decide +kernel)
set_option maxRecDepth 20000 in
theorem wi_r2 : ∀ w ∈ wsL_law0_r2, w ∈ lw_tbl := in_eq [97, 57, 58, 599, 600, 601, 602, 606, 607, 608, 609, 610, 611, 613, 614, 615, 694, 616, 617, 619, 620, 621, 623, 624] (by decide +kernel)
set_option maxRecDepth 20000 in
theorem wi_r3 : ∀ w ∈ wsL_law0_r3, w ∈ lw_tbl := in_eq [625, 626, 131, 132, 26, 133, 134, 135, 136, 137, 138, 139, 140, 33, 212, 34, 99, 228, 35, 104, 208, 209, 210, 229] (by decide +kernel)
set_option maxRecDepth 20000 in
theorem wi_r4 : ∀ w ∈ wsL_law0_r4, w ∈ lw_tbl := in_eq [230, 231, 232, 240, 241, 233, 243, 245, 246, 248, 250, 254, 234, 237, 239, 699, 700, 701, 702, 603, 605, 604, 703, 704] (by decide +kernel)
set_option maxRecDepth 20000 in
theorem wi_r5 : ∀ w ∈ wsL_law0_r5, w ∈ lw_tbl := in_eq [705, 706, 708, 12, 709, 695, 696, 697, 698, 286, 287, 288, 289, 290, 291, 292, 293, 236, 294, 296, 1, 297, 298, 36] (by decide +kernel)
set_option maxRecDepth 20000 in
theorem wi_r6 : ∀ w ∈ wsL_law0_r6, w ∈ lw_tbl := in_eq [314, 315, 316, 318, 319, 320, 321, 242, 322, 323, 324, 325, 326, 327, 37, 328, 710, 711, 712, 713, 714, 716, 13, 717] (by decide +kernel)
set_option maxRecDepth 20000 in
theorem wi_r7 : ∀ w ∈ wsL_law0_r7, w ∈ lw_tbl := in_eq [718, 720, 14, 721, 330, 331, 332, 333, 334, 335, 336, 101, 342, 38, 337, 338, 339, 343, 344, 345, 346, 347, 349, 351] (by decide +kernel)
set_option maxRecDepth 20000 in
theorem wi_r8 : ∀ w ∈ wsL_law0_r8, w ∈ lw_tbl := in_eq [354, 370, 371, 372, 373, 244, 352, 355, 374, 375, 376, 377, 378, 380, 2, 381, 350, 383, 384, 385, 387, 3, 388, 247] (by decide +kernel)
set_option maxRecDepth 20000 in
theorem wi_r9 : ∀ w ∈ wsL_law0_r9, w ∈ lw_tbl := in_eq [389, 390, 391, 392, 357, 722, 723, 724, 725, 612, 726, 728, 15, 729, 393, 394, 395, 396, 397, 398, 399, 348, 358, 353] (by decide +kernel)
set_option maxRecDepth 20000 in
theorem wi_r10 : ∀ w ∈ wsL_law0_r10, w ∈ lw_tbl := in_eq [356, 400, 402, 4, 403, 406, 730, 731, 732, 733, 407, 408, 409, 410, 411, 412, 413, 734, 735, 736, 737, 414, 415, 416] (by decide +kernel)
set_option maxRecDepth 20000 in
theorem wi_r11 : ∀ w ∈ wsL_law0_r11, w ∈ lw_tbl := in_eq [417, 418, 419, 420, 102, 422, 423, 424, 425, 738, 739, 740, 741, 618, 426, 427, 428, 429, 430, 431, 432, 103, 435, 436] (by decide +kernel)
set_option maxRecDepth 20000 in
theorem wi_r12 : ∀ w ∈ wsL_law0_r12, w ∈ lw_tbl := in_eq [437, 438, 235, 439, 441, 5, 442, 59, 60, 61, 62, 64, 66, 68, 70, 72, 443, 444, 445, 446, 447, 448, 449, 450] (by decide +kernel)
set_option maxRecDepth 20000 in
theorem wi_r13 : ∀ w ∈ wsL_law0_r13, w ∈ lw_tbl := in_eq [451, 238, 452, 453, 454, 455, 456, 458, 6, 459, 460, 462, 7, 463, 464, 465, 466, 467, 468, 470, 8, 471, 476, 472] (by decide +kernel)
set_option maxRecDepth 20000 in
theorem wi_r14 : ∀ w ∈ wsL_law0_r14, w ∈ lw_tbl := in_eq [473, 474, 475, 477, 479, 9, 480, 481, 483, 10, 484, 253, 249, 251, 485, 487, 488, 489, 490, 252, 742, 743, 744, 745] (by decide +kernel)
set_option maxRecDepth 20000 in
theorem wi_r15 : ∀ w ∈ wsL_law0_r15, w ∈ lw_tbl := in_eq [622, 746, 748, 16, 749, 627, 628, 629, 630, 631, 632, 750, 752, 17, 753, 754, 756, 18, 757, 758, 760, 19, 761, 762] (by decide +kernel)
set_option maxRecDepth 20000 in
theorem wi_r16 : ∀ w ∈ wsL_law0_r16, w ∈ lw_tbl := in_eq [764, 20, 765, 766, 767, 768, 769, 771, 21, 772, 773, 775, 22, 776, 777, 779, 23, 780, 491, 492, 493, 494, 495, 496] (by decide +kernel)
set_option maxRecDepth 20000 in
theorem wi_r17 : ∀ w ∈ wsL_law0_r17, w ∈ lw_tbl := in_eq [497, 781, 782, 783, 784, 123, 124, 125, 126, 785, 786, 787, 788, 127, 128, 129, 130, 789, 790, 791, 792, 500, 501, 502] (by decide +kernel)
set_option maxRecDepth 20000 in
theorem wi_r18 : ∀ w ∈ wsL_law0_r18, w ∈ lw_tbl := in_eq [503, 504, 505, 506, 507, 508, 509, 510, 793, 794, 795, 796, 511, 512, 513, 514, 515, 516, 517, 797, 798, 799, 800, 518] (by decide +kernel)
set_option maxRecDepth 20000 in
theorem wi_r19 : ∀ w ∈ wsL_law0_r19, w ∈ lw_tbl := in_eq [519, 520, 521, 522, 523, 524, 525, 801, 802, 803, 804, 805, 807, 24, 808, 526, 527, 528, 529, 530, 531, 532, 63, 533] (by decide +kernel)
set_option maxRecDepth 20000 in
theorem wi_r20 : ∀ w ∈ wsL_law0_r20, w ∈ lw_tbl := in_eq [535, 11, 536, 809, 810, 811, 812, 813, 815, 25, 816, 537, 538, 539, 540, 541, 542, 543, 65, 67, 69, 71, 817, 818] (by decide +kernel)
set_option maxRecDepth 20000 in
theorem wi_r21 : ∀ w ∈ wsL_law0_r21, w ∈ lw_tbl := in_eq [819, 820, 544, 545, 546, 547, 548, 549, 550, 821, 822, 823, 824, 551, 552, 553, 554, 555, 556, 557, 825, 826, 827, 828] (by decide +kernel)
set_option maxRecDepth 20000 in
theorem wi_r22 : ∀ w ∈ wsL_law0_r22, w ∈ lw_tbl := in_eq [558, 559, 560, 561, 562, 563, 564, 829, 830, 831, 832, 565, 566, 567, 568, 569, 570, 571, 833, 834, 835, 836, 572, 573] (by decide +kernel)
set_option maxRecDepth 20000 in
theorem wi_r23 : ∀ w ∈ wsL_law0_r23, w ∈ lw_tbl := in_eq [574, 575, 576, 577, 578, 837, 838, 839, 840, 579, 580, 581, 582, 583, 584, 585, 73, 841, 842, 843, 844, 586, 587, 588] (by decide +kernel)
set_option maxRecDepth 20000 in
theorem wi_r24 : ∀ w ∈ wsL_law0_r24, w ∈ lw_tbl := in_eq [589, 590, 591, 592, 593, 594, 595, 596, 845, 846, 847, 848] (by decide +kernel)
set_option maxRecDepth 20000 in
theorem wi_X0 : ∀ w ∈ wsX00, w ∈ lw_tbl := in_eq [74, 76, 78, 80, 82, 84, 86, 88, 90, 92, 94] (by decide +kernel)
set_option maxRecDepth 20000 in
theorem wi_X1 : ∀ w ∈ wsX10, w ∈ lw_tbl := in_eq [255, 257, 259, 261, 263, 265, 267, 269, 271, 273, 275, 277, 279, 281, 283] (by decide +kernel)
set_option maxRecDepth 20000 in
theorem wi_X2 : ∀ w ∈ wsX20, w ∈ lw_tbl := in_eq [359, 361, 363, 365, 367] (by decide +kernel)
set_option maxRecDepth 20000 in
theorem wi_X3 : ∀ w ∈ wsX30, w ∈ lw_tbl := in_eq [106, 108, 110, 112, 114, 116, 118, 120] (by decide +kernel)
set_option maxRecDepth 20000 in
theorem wi_X4 : ∀ w ∈ wsX40, w ∈ lw_tbl := in_eq [633, 635, 637, 639, 641, 643, 645, 647, 649, 651, 653, 655, 657, 659, 661, 663, 665, 667, 669, 671, 673, 675, 677, 679, 681, 683, 685, 687, 689, 691] (by decide +kernel)
set_option maxRecDepth 20000 in
theorem wsL_law_in0 : ∀ w ∈ wsL_law0, w ∈ lw_tbl := fun w h => (List.mem_append.mp (show w ∈ _ ++ ([] : List Cond) from h)).elim (fun h => (List.mem_append.mp h).elim (fun h => (List.mem_append.mp h).elim (fun h => (List.mem_append.mp h).elim (fun h => (List.mem_append.mp h).elim (fun h => (List.mem_append.mp h).elim (fun h => (List.mem_append.mp h).elim (fun h => wi_r1 w h) (fun h => (List.mem_append.mp h).elim (fun h => wi_r2 w h) (fun h => (List.mem_append.mp h).elim (fun h => wi_r3 w h) (fun h => (List.mem_append.mp h).elim (fun h => wi_r4 w h) (fun h => (List.mem_append.mp h).elim (fun h => wi_r5 w h) (fun h => (List.mem_append.mp h).elim (fun h => wi_r6 w h) (fun h => (List.mem_append.mp h).elim (fun h => wi_r7 w h) (fun h => (List.mem_append.mp h).elim (fun h => wi_r8 w h) (fun h => (List.mem_append.mp h).elim (fun h => wi_r9 w h) (fun h => (List.mem_append.mp h).elim (fun h => wi_r10 w h) (fun h => (List.mem_append.mp h).elim (fun h => wi_r11 w h) (fun h => (List.mem_append.mp h).elim (fun h => wi_r12 w h) (fun h => (List.mem_append.mp h).elim (fun h => wi_r13 w h) (fun h => (List.mem_append.mp h).elim (fun h => wi_r14 w h) (fun h => (List.mem_append.mp h).elim (fun h => wi_r15 w h) (fun h => (List.mem_append.mp h).elim (fun h => wi_r16 w h) (fun h => (List.mem_append.mp h).elim (fun h => wi_r17 w h) (fun h => (List.mem_append.mp h).elim (fun h => wi_r18 w h) (fun h => (List.mem_append.mp h).elim (fun h => wi_r19 w h) (fun h => (List.mem_append.mp h).elim (fun h => wi_r20 w h) (fun h => (List.mem_append.mp h).elim (fun h => wi_r21 w h) (fun h => (List.mem_append.mp h).elim (fun h => wi_r22 w h) (fun h => (List.mem_append.mp h).elim (fun h => wi_r23 w h) (fun h => wi_r24 w h)))))))))))))))))))))))) (fun h => wi_X3 w h)) (fun h => wi_X4 w h)) (fun h => wi_X0 w h)) (fun h => wi_X1 w h)) (fun h => wi_X2 w h)) (fun h => absurd h List.not_mem_nil)
