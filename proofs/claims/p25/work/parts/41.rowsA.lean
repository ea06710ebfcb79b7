-- ===== PART A: goes FIRST, ahead of the names: the tables' words, and 'selects' of the private methods out of them =====
/-- a private method of a class that the tables say can be made, by its rows of tables_1 -/
def lw_okq (q : MethodName × Nat) : Prop := (q.1.cls ≠ "java/lang/invoke/MethodHandle" ∧ q.1.cls ≠ "java/lang/invoke/VarHandle") ∧ Cond.instantiable q.1.cls q.2 ∈ tables_1 ∧ Cond.privateMethod q.1 ∈ tables_1 ∧ Cond.instanceMethod q.1 ∈ tables_1
theorem lw_p0 : lw_okq (⟨"java/lang/Throwable", "fillInStackTrace", "(I)Ljava/lang/Throwable;"⟩, 6) := ⟨⟨by decide +kernel, by decide +kernel⟩, List.mem_of_getElem? (i := 139) (by decide +kernel), List.mem_of_getElem? (i := 137) (by decide +kernel), List.mem_of_getElem? (i := 138) (by decide +kernel)⟩
theorem lw_p1 : lw_okq (⟨"Leavebank", "personAt", "(I)LLeavebank$Person;"⟩, 8) := ⟨⟨by decide +kernel, by decide +kernel⟩, List.mem_of_getElem? (i := 13) (by decide +kernel), List.mem_of_getElem? (i := 294) (by decide +kernel), List.mem_of_getElem? (i := 295) (by decide +kernel)⟩
theorem lw_p2 : lw_okq (⟨"Leavebank$Person", "findLeave", "(I)I"⟩, 15) := ⟨⟨by decide +kernel, by decide +kernel⟩, List.mem_of_getElem? (i := 188) (by decide +kernel), List.mem_of_getElem? (i := 354) (by decide +kernel), List.mem_of_getElem? (i := 355) (by decide +kernel)⟩
theorem lw_p3 : lw_okq (⟨"Leavebank$Person", "isSickOn", "(I)Z"⟩, 15) := ⟨⟨by decide +kernel, by decide +kernel⟩, List.mem_of_getElem? (i := 188) (by decide +kernel), List.mem_of_getElem? (i := 361) (by decide +kernel), List.mem_of_getElem? (i := 362) (by decide +kernel)⟩
theorem lw_p4 : lw_okq (⟨"Leavebank", "requestAt", "(I)LLeavebank$Request;"⟩, 8) := ⟨⟨by decide +kernel, by decide +kernel⟩, List.mem_of_getElem? (i := 13) (by decide +kernel), List.mem_of_getElem? (i := 373) (by decide +kernel), List.mem_of_getElem? (i := 374) (by decide +kernel)⟩
theorem lw_p5 : lw_okq (⟨"Leavebank$Ledger", "clear", "()V"⟩, 11) := ⟨⟨by decide +kernel, by decide +kernel⟩, List.mem_of_getElem? (i := 25) (by decide +kernel), List.mem_of_getElem? (i := 399) (by decide +kernel), List.mem_of_getElem? (i := 400) (by decide +kernel)⟩
theorem lw_p6 : lw_okq (⟨"Leavebank$Ledger", "earn", "(II)V"⟩, 11) := ⟨⟨by decide +kernel, by decide +kernel⟩, List.mem_of_getElem? (i := 25) (by decide +kernel), List.mem_of_getElem? (i := 417) (by decide +kernel), List.mem_of_getElem? (i := 418) (by decide +kernel)⟩
theorem lw_p7 : lw_okq (⟨"Leavebank$Ledger", "expireOn", "(I)V"⟩, 11) := ⟨⟨by decide +kernel, by decide +kernel⟩, List.mem_of_getElem? (i := 25) (by decide +kernel), List.mem_of_getElem? (i := 421) (by decide +kernel), List.mem_of_getElem? (i := 422) (by decide +kernel)⟩
theorem lw_p8 : lw_okq (⟨"Leavebank$Ledger", "take", "(I)V"⟩, 11) := ⟨⟨by decide +kernel, by decide +kernel⟩, List.mem_of_getElem? (i := 25) (by decide +kernel), List.mem_of_getElem? (i := 429) (by decide +kernel), List.mem_of_getElem? (i := 430) (by decide +kernel)⟩
theorem lw_p9 : lw_okq (⟨"Leavebank$Ledger", "drawFromLots", "(I)I"⟩, 11) := ⟨⟨by decide +kernel, by decide +kernel⟩, List.mem_of_getElem? (i := 25) (by decide +kernel), List.mem_of_getElem? (i := 438) (by decide +kernel), List.mem_of_getElem? (i := 439) (by decide +kernel)⟩
theorem lw_p10 : lw_okq (⟨"Leavebank$Ledger", "payOn", "(LLeavebank$Person;I)V"⟩, 11) := ⟨⟨by decide +kernel, by decide +kernel⟩, List.mem_of_getElem? (i := 25) (by decide +kernel), List.mem_of_getElem? (i := 442) (by decide +kernel), List.mem_of_getElem? (i := 443) (by decide +kernel)⟩
theorem lw_p11 : lw_okq (⟨"Leavebank", "ledgerBehind", "(II)LLeavebank$Ledger;"⟩, 8) := ⟨⟨by decide +kernel, by decide +kernel⟩, List.mem_of_getElem? (i := 13) (by decide +kernel), List.mem_of_getElem? (i := 491) (by decide +kernel), List.mem_of_getElem? (i := 492) (by decide +kernel)⟩
def lw_privs_1 : List (MethodName × Nat) := [(⟨"java/lang/Throwable", "fillInStackTrace", "(I)Ljava/lang/Throwable;"⟩, 6), (⟨"Leavebank", "personAt", "(I)LLeavebank$Person;"⟩, 8), (⟨"Leavebank$Person", "findLeave", "(I)I"⟩, 15), (⟨"Leavebank$Person", "isSickOn", "(I)Z"⟩, 15), (⟨"Leavebank", "requestAt", "(I)LLeavebank$Request;"⟩, 8), (⟨"Leavebank$Ledger", "clear", "()V"⟩, 11), (⟨"Leavebank$Ledger", "earn", "(II)V"⟩, 11), (⟨"Leavebank$Ledger", "expireOn", "(I)V"⟩, 11), (⟨"Leavebank$Ledger", "take", "(I)V"⟩, 11), (⟨"Leavebank$Ledger", "drawFromLots", "(I)I"⟩, 11), (⟨"Leavebank$Ledger", "payOn", "(LLeavebank$Person;I)V"⟩, 11), (⟨"Leavebank", "ledgerBehind", "(II)LLeavebank$Ledger;"⟩, 8)]
theorem lw_r1 : ∀ q ∈ lw_privs_1, lw_okq q := List.forall_mem_cons.mpr ⟨lw_p0, List.forall_mem_cons.mpr ⟨lw_p1, List.forall_mem_cons.mpr ⟨lw_p2, List.forall_mem_cons.mpr ⟨lw_p3, List.forall_mem_cons.mpr ⟨lw_p4, List.forall_mem_cons.mpr ⟨lw_p5, List.forall_mem_cons.mpr ⟨lw_p6, List.forall_mem_cons.mpr ⟨lw_p7, List.forall_mem_cons.mpr ⟨lw_p8, List.forall_mem_cons.mpr ⟨lw_p9, List.forall_mem_cons.mpr ⟨lw_p10, List.forall_mem_cons.mpr ⟨lw_p11, fun _ h => absurd h List.not_mem_nil⟩⟩⟩⟩⟩⟩⟩⟩⟩⟩⟩⟩
def lw_privs : List (MethodName × Nat) := lw_privs_1
def lw_tbl : List Cond := k2_sels lw_privs ++ tables_1
theorem lw_privs_ok : ∀ q ∈ lw_privs, lw_okq q := lw_r1
theorem in_sub {big : List Cond} (ps : List Nat) : ∀ w ∈ ps.filterMap (fun i => big[i]?), w ∈ big := fun w hw => by
  obtain ⟨i, -, hi⟩ := List.mem_filterMap.mp hw
  exact List.mem_of_getElem? hi
theorem in_eq {big ws : List Cond} (ps : List Nat) (h : ws = ps.filterMap (fun i => big[i]?)) : ∀ w ∈ ws, w ∈ big := fun w hw => in_sub ps w (by rw [← h]; exact hw)
set_option maxRecDepth 20000 in
theorem wi_r1 : ∀ w ∈ wsL_law0_r1, w ∈ lw_tbl := in_eq [24, 25, 13, 82, 26, 27, 28, 29, 30, 31, 32, 83, 34, 85, 36, 37, 14, 90, 39, 40, 41, 42, 43, 286] (by decide +kernel)
set_option maxRecDepth 20000 in
theorem wi_r2 : ∀ w ∈ wsL_law0_r2, w ∈ lw_tbl := in_eq [287, 12, 288, 289, 290, 291, 292, 293, 294, 108, 109, 110, 111, 112, 18, 184, 19, 84, 200, 20, 89, 180, 181, 182] (by decide +kernel)
set_option maxRecDepth 20000 in
theorem wi_r3 : ∀ w ∈ wsL_law0_r3, w ∈ lw_tbl := in_eq [201, 202, 203, 204, 212, 213, 205, 215, 217, 218, 220, 222, 226, 206, 209, 211, 554, 555, 556, 295, 296, 297, 298, 299] (by decide +kernel)
set_option maxRecDepth 20000 in
theorem wi_r4 : ∀ w ∈ wsL_law0_r4, w ∈ lw_tbl := in_eq [300, 301, 302, 303, 304, 208, 86, 326, 22, 305, 307, 1, 308, 309, 21, 276, 277, 278, 327, 328, 329, 330, 331, 333] (by decide +kernel)
set_option maxRecDepth 20000 in
theorem wi_r5 : ∀ w ∈ wsL_law0_r5, w ∈ lw_tbl := in_eq [335, 338, 354, 355, 356, 357, 216, 336, 339, 358, 359, 360, 361, 362, 363, 23, 364, 365, 367, 2, 368, 334, 370, 371] (by decide +kernel)
set_option maxRecDepth 20000 in
theorem wi_r6 : ∀ w ∈ wsL_law0_r6, w ∈ lw_tbl := in_eq [372, 374, 3, 375, 219, 376, 377, 378, 379, 341, 380, 381, 382, 383, 332, 342, 337, 340, 384, 386, 4, 387, 390, 391] (by decide +kernel)
set_option maxRecDepth 20000 in
theorem wi_r7 : ∀ w ∈ wsL_law0_r7, w ∈ lw_tbl := in_eq [392, 393, 394, 87, 396, 397, 398, 399, 400, 401, 402, 403, 88, 406, 407, 408, 409, 207, 410, 412, 5, 413, 44, 45] (by decide +kernel)
set_option maxRecDepth 20000 in
theorem wi_r8 : ∀ w ∈ wsL_law0_r8, w ∈ lw_tbl := in_eq [46, 47, 49, 51, 53, 55, 57, 414, 415, 416, 417, 418, 419, 420, 284, 285, 210, 421, 422, 423, 424, 214, 425, 426] (by decide +kernel)
set_option maxRecDepth 20000 in
theorem wi_r9 : ∀ w ∈ wsL_law0_r9, w ∈ lw_tbl := in_eq [427, 428, 430, 6, 431, 432, 434, 7, 435, 436, 437, 438, 439, 440, 442, 8, 443, 448, 444, 445, 446, 447, 449, 451] (by decide +kernel)
set_option maxRecDepth 20000 in
theorem wi_r10 : ∀ w ∈ wsL_law0_r10, w ∈ lw_tbl := in_eq [9, 452, 453, 455, 10, 456, 225, 221, 223, 457, 459, 460, 461, 462, 224, 463, 464, 465, 466, 467, 468, 469, 471, 472] (by decide +kernel)
set_option maxRecDepth 20000 in
theorem wi_r11 : ∀ w ∈ wsL_law0_r11, w ∈ lw_tbl := in_eq [473, 474, 475, 557, 558, 559, 560, 561, 562, 563, 551, 552, 553, 483, 484, 485, 480, 481, 482, 486, 487, 488, 489, 490] (by decide +kernel)
set_option maxRecDepth 20000 in
theorem wi_r12 : ∀ w ∈ wsL_law0_r12, w ∈ lw_tbl := in_eq [491, 477, 478, 479, 492, 493, 494, 258, 259, 260, 261, 264, 265, 266, 267, 268, 269, 270, 271, 495, 496, 497, 498, 499] (by decide +kernel)
set_option maxRecDepth 20000 in
theorem wi_r13 : ∀ w ∈ wsL_law0_r13, w ∈ lw_tbl := in_eq [500, 501, 48, 502, 504, 11, 505, 506, 507, 508, 509, 50, 52, 54, 56, 510, 511, 512, 513, 514, 515, 516, 517, 518] (by decide +kernel)
set_option maxRecDepth 20000 in
theorem wi_r14 : ∀ w ∈ wsL_law0_r14, w ∈ lw_tbl := in_eq [519, 520, 521, 522, 523, 524, 525, 526, 527, 528, 529, 530, 531, 532, 533, 58, 534, 535, 536, 537, 538, 539, 540, 541] (by decide +kernel)
set_option maxRecDepth 20000 in
theorem wi_r15 : ∀ w ∈ wsL_law0_r15, w ∈ lw_tbl := in_eq [542, 543, 544, 545, 546, 547, 548, 549, 550, 272, 273, 274, 275, 280, 281, 282, 283] (by decide +kernel)
set_option maxRecDepth 20000 in
theorem wi_X0 : ∀ w ∈ wsX00, w ∈ lw_tbl := in_eq [59, 61, 63, 65, 67, 69, 71, 73, 75, 77, 79] (by decide +kernel)
set_option maxRecDepth 20000 in
theorem wi_X1 : ∀ w ∈ wsX10, w ∈ lw_tbl := in_eq [227, 229, 231, 233, 235, 237, 239, 241, 243, 245, 247, 249, 251, 253, 255] (by decide +kernel)
set_option maxRecDepth 20000 in
theorem wi_X2 : ∀ w ∈ wsX20, w ∈ lw_tbl := in_eq [343, 345, 347, 349, 351] (by decide +kernel)
set_option maxRecDepth 20000 in
theorem wi_X3 : ∀ w ∈ wsX30, w ∈ lw_tbl := in_eq [91, 93, 95, 97, 99, 101, 103, 105] (by decide +kernel)
set_option maxRecDepth 20000 in
theorem wsL_law_in0 : ∀ w ∈ wsL_law0, w ∈ lw_tbl := fun w h => (List.mem_append.mp (show w ∈ _ ++ ([] : List Cond) from h)).elim (fun h => (List.mem_append.mp h).elim (fun h => (List.mem_append.mp h).elim (fun h => (List.mem_append.mp h).elim (fun h => (List.mem_append.mp h).elim (fun h => (List.mem_append.mp h).elim (fun h => wi_r1 w h) (fun h => (List.mem_append.mp h).elim (fun h => wi_r2 w h) (fun h => (List.mem_append.mp h).elim (fun h => wi_r3 w h) (fun h => (List.mem_append.mp h).elim (fun h => wi_r4 w h) (fun h => (List.mem_append.mp h).elim (fun h => wi_r5 w h) (fun h => (List.mem_append.mp h).elim (fun h => wi_r6 w h) (fun h => (List.mem_append.mp h).elim (fun h => wi_r7 w h) (fun h => (List.mem_append.mp h).elim (fun h => wi_r8 w h) (fun h => (List.mem_append.mp h).elim (fun h => wi_r9 w h) (fun h => (List.mem_append.mp h).elim (fun h => wi_r10 w h) (fun h => (List.mem_append.mp h).elim (fun h => wi_r11 w h) (fun h => (List.mem_append.mp h).elim (fun h => wi_r12 w h) (fun h => (List.mem_append.mp h).elim (fun h => wi_r13 w h) (fun h => (List.mem_append.mp h).elim (fun h => wi_r14 w h) (fun h => wi_r15 w h))))))))))))))) (fun h => wi_X3 w h)) (fun h => wi_X0 w h)) (fun h => wi_X1 w h)) (fun h => wi_X2 w h)) (fun h => absurd h List.not_mem_nil)
