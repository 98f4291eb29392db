/-! What was there before the law began: the thirty Ops, their table, two int arrays, the strings and their bytes. -/
def kz_opn : List String := ["UNREACHABLE", "NOP", "BLOCK", "LOOP", "IF", "ELSE", "END", "BR", "BR_IF", "RETURN", "CALL", "DROP", "SELECT", "LOCAL_GET", "LOCAL_SET", "LOCAL_TEE", "I32_CONST", "I64_CONST", "I32_EQZ", "I32_EQ", "I32_LT_S", "I64_EQZ", "I64_EQ", "I32_ADD", "I32_SUB", "I32_MUL", "I64_ADD", "I64_MUL", "I32_WRAP_I64", "I64_EXTEND_I32_S"]
def kz_opw : List Nat := [25, 16, 26, 21, 19, 18, 17, 27, 22, 28, 20, 29, 30, 23, 24, 31, 32, 33, 34, 35, 36, 37, 38, 39, 40, 41, 42, 43, 44, 45]
def kz_opd : List (List Int) := [[0, 0, 0, 0, 0, 0],
  [1, 0, 0, 0, 0, 1],
  [2, 1, 0, 0, 0, 2],
  [3, 1, 0, 0, 0, 3],
  [4, 1, 0, 0, 0, 4],
  [5, 0, 0, 0, 0, 5],
  [11, 0, 0, 0, 0, 6],
  [12, 2, 0, 0, 0, 7],
  [13, 2, 0, 0, 0, 8],
  [15, 0, 0, 0, 0, 9],
  [16, 3, 0, 0, 0, 10],
  [26, 0, 0, 0, 0, 11],
  [27, 0, 0, 0, 0, 12],
  [32, 4, 0, 0, 0, 13],
  [33, 4, 0, 0, 0, 14],
  [34, 4, 0, 0, 0, 15],
  [65, 5, 0, 0, 1, 16],
  [66, 6, 0, 0, 2, 17],
  [69, 0, 1, 1, 1, 18],
  [70, 0, 2, 1, 1, 19],
  [72, 0, 2, 1, 1, 20],
  [80, 0, 1, 2, 1, 21],
  [81, 0, 2, 2, 1, 22],
  [106, 0, 2, 1, 1, 23],
  [107, 0, 2, 1, 1, 24],
  [108, 0, 2, 1, 1, 25],
  [124, 0, 2, 2, 2, 26],
  [126, 0, 2, 2, 2, 27],
  [167, 0, 1, 2, 1, 28],
  [172, 0, 1, 1, 2, 29]]
def kz_sto : List (String × Nat) := [("StackAssembler$Reader", 124), ("StackAssembler$Reader", 139), ("StackAssembler$Reader", 148), ("StackAssembler$Reader", 150), ("StackAssembler$Reader", 152), ("StackAssembler$Scanner", 70), ("StackAssembler$Scanner", 76), ("StackAssembler", 92), ("StackAssembler", 99), ("StackAssembler", 104), ("StackAssembler$Printer", 21), ("StackAssembler$Printer", 44), ("StackAssembler$Printer", 46), ("StackAssembler$Printer", 98), ("StackAssembler$Printer", 64), ("StackAssembler", 120), ("StackAssembler$Op", 149), ("StackAssembler$Op", 164), ("StackAssembler$Op", 161), ("StackAssembler$Op", 158), ("StackAssembler$Op", 176), ("StackAssembler$Op", 155), ("StackAssembler$Op", 170), ("StackAssembler$Op", 185), ("StackAssembler$Op", 188), ("StackAssembler$Op", 143), ("StackAssembler$Op", 152), ("StackAssembler$Op", 167), ("StackAssembler$Op", 173), ("StackAssembler$Op", 179), ("StackAssembler$Op", 182), ("StackAssembler$Op", 191), ("StackAssembler$Op", 194), ("StackAssembler$Op", 197), ("StackAssembler$Op", 200), ("StackAssembler$Op", 203), ("StackAssembler$Op", 206), ("StackAssembler$Op", 209), ("StackAssembler$Op", 212), ("StackAssembler$Op", 215), ("StackAssembler$Op", 218), ("StackAssembler$Op", 221), ("StackAssembler$Op", 224), ("StackAssembler$Op", 227), ("StackAssembler$Op", 230), ("StackAssembler$Op", 233)]
def kz_stb : List (List Int) := [[109, 111, 100, 117, 108, 101],
  [102, 117, 110, 99],
  [112, 97, 114, 97, 109],
  [114, 101, 115, 117, 108, 116],
  [108, 111, 99, 97, 108],
  [105, 51, 50],
  [105, 54, 52],
  [116, 104, 101, 32, 116, 101, 120, 116, 32, 105, 115, 32, 109, 97, 108, 102, 111, 114, 109, 101, 100],
  [116, 104, 101, 32, 116, 101, 120, 116, 32, 105, 115, 32, 116, 111, 111, 32, 109, 117, 99, 104],
  [116, 104, 101, 32, 109, 111, 100, 117, 108, 101, 32, 105, 115, 32, 105, 110, 118, 97, 108, 105, 100],
  [40, 109, 111, 100, 117, 108, 101],
  [40, 102, 117, 110, 99],
  [40, 112, 97, 114, 97, 109],
  [40, 114, 101, 115, 117, 108, 116, 32],
  [40, 108, 111, 99, 97, 108],
  [116, 104, 101, 32, 112, 114, 105, 110, 116, 101, 100, 32, 116, 101, 120, 116, 32, 105, 115, 32, 116, 111, 111, 32, 108, 111, 110, 103],
  [110, 111, 112],
  [101, 110, 100],
  [101, 108, 115, 101],
  [105, 102],
  [99, 97, 108, 108],
  [108, 111, 111, 112],
  [98, 114, 95, 105, 102],
  [108, 111, 99, 97, 108, 46, 103, 101, 116],
  [108, 111, 99, 97, 108, 46, 115, 101, 116],
  [117, 110, 114, 101, 97, 99, 104, 97, 98, 108, 101],
  [98, 108, 111, 99, 107],
  [98, 114],
  [114, 101, 116, 117, 114, 110],
  [100, 114, 111, 112],
  [115, 101, 108, 101, 99, 116],
  [108, 111, 99, 97, 108, 46, 116, 101, 101],
  [105, 51, 50, 46, 99, 111, 110, 115, 116],
  [105, 54, 52, 46, 99, 111, 110, 115, 116],
  [105, 51, 50, 46, 101, 113, 122],
  [105, 51, 50, 46, 101, 113],
  [105, 51, 50, 46, 108, 116, 95, 115],
  [105, 54, 52, 46, 101, 113, 122],
  [105, 54, 52, 46, 101, 113],
  [105, 51, 50, 46, 97, 100, 100],
  [105, 51, 50, 46, 115, 117, 98],
  [105, 51, 50, 46, 109, 117, 108],
  [105, 54, 52, 46, 97, 100, 100],
  [105, 54, 52, 46, 109, 117, 108],
  [105, 51, 50, 46, 119, 114, 97, 112, 95, 105, 54, 52],
  [105, 54, 52, 46, 101, 120, 116, 101, 110, 100, 95, 105, 51, 50, 95, 115]]
def kz_hdr : List Int := [0, 97, 115, 109, 1, 0, 0, 0]
def kz_swm : List Int := [9, 0, 1, 2, 3, 4, 5, 6, 7, 8, 10, 11, 12, 13, 14, 15, 0, 0, 0, 0, 0, 0, 0, 0, 0, 0, 0, 0, 0, 0]
def kz_opT (i : Nat) : Term := .static "StackAssembler$Op" (kz_opn.getD i "") "LStackAssembler$Op;"
def kz_sT (i : Nat) : Term := .string (kz_sto.getD i ("", 0)).1 (kz_sto.getD i ("", 0)).2
def kz_sV (i : Nat) : Term := .field (kz_sT i) "java/lang/String" "value" "[B"
def kz_ov (i j : Nat) : Int := (kz_opd.getD i []).getD j 0
def kz_sb (i : Nat) : List Int := kz_stb.getD i []
def kz_elw (t : Term) (vs : List Int) : List Cond := (List.range vs.length).map fun j => .eq (.elem t (.int (Int32.ofNat j))) (.int (Int32.ofInt (vs.getD j 0)))
def kz_wop (i : Nat) : List Cond := [.exactly (kz_opT i) "StackAssembler$Op", .eq (.field (kz_opT i) "StackAssembler$Op" "word" "Ljava/lang/String;") (kz_sT (kz_opw.getD i 0)), .eq (.field (kz_opT i) "StackAssembler$Op" "code" "I") (.int (Int32.ofInt (kz_ov i 0))), .eq (.field (kz_opT i) "StackAssembler$Op" "operand" "I") (.int (Int32.ofInt (kz_ov i 1))), .eq (.field (kz_opT i) "StackAssembler$Op" "takes" "I") (.int (Int32.ofInt (kz_ov i 2))), .eq (.field (kz_opT i) "StackAssembler$Op" "taken" "I") (.int (Int32.ofInt (kz_ov i 3))), .eq (.field (kz_opT i) "StackAssembler$Op" "puts" "I") (.int (Int32.ofInt (kz_ov i 4))), .eq (.field (kz_opT i) "java/lang/Enum" "ordinal" "I") (.int (Int32.ofInt (kz_ov i 5)))]
def kz_wst (i : Nat) : List Cond := [.exactly (kz_sT i) "java/lang/String", .eq (.field (kz_sT i) "java/lang/String" "coder" "B") (.int 0), .arrayOf (kz_sV i) .byte, .eq (.length (kz_sV i)) (.int (Int32.ofNat (kz_sb i).length))] ++ kz_elw (kz_sV i) (kz_sb i)
def kz_tAL : Term := .static "StackAssembler$Op" "ALL" "[LStackAssembler$Op;"
def kz_tHD : Term := .static "StackAssembler$Encoder" "HEADER" "[I"
def kz_tSW : Term := .static "StackAssembler$1" "$SwitchMap$StackAssembler$Op" "[I"
def kz_wal : List Cond := [.arrayOf kz_tAL (.object "StackAssembler$Op"), .eq (.length kz_tAL) (.int 30)] ++ (List.range 30).map fun j => .eq (.elem kz_tAL (.int (Int32.ofNat j))) (kz_opT j)
def kz_whd : List Cond := [.arrayOf kz_tHD .int, .eq (.length kz_tHD) (.int (Int32.ofNat kz_hdr.length))] ++ kz_elw kz_tHD kz_hdr
def kz_wsw : List Cond := [.arrayOf kz_tSW .int, .eq (.length kz_tSW) (.int (Int32.ofNat kz_swm.length))] ++ kz_elw kz_tSW kz_swm
def kz_wot : List Cond := [(Jvm.Cond.not (Jvm.Cond.castable "java/lang/IllegalArgumentException" "java/lang/UnsupportedOperationException")), (Jvm.Cond.not (Jvm.Cond.castable "java/lang/IllegalArgumentException" "java/lang/IllegalStateException")), (Jvm.Cond.not (Jvm.Cond.castable "java/lang/UnsupportedOperationException" "java/lang/IllegalArgumentException")), (Jvm.Cond.not (Jvm.Cond.castable "java/lang/UnsupportedOperationException" "java/lang/IllegalStateException")), (Jvm.Cond.not (Jvm.Cond.castable "java/lang/IllegalStateException" "java/lang/IllegalArgumentException")), (Jvm.Cond.not (Jvm.Cond.castable "java/lang/IllegalStateException" "java/lang/UnsupportedOperationException")), (Jvm.Cond.isRef (Jvm.Term.static "jdk/internal/util/Preconditions" "SIOOBE_FORMATTER" "Ljava/util/function/BiFunction;")), (Jvm.Cond.isRef (Jvm.Term.static "java/lang/Throwable" "UNASSIGNED_STACK" "[Ljava/lang/StackTraceElement;")), (Jvm.Cond.isRef (Jvm.Term.static "java/lang/Throwable" "SUPPRESSED_SENTINEL" "Ljava/util/List;")), (Jvm.Cond.eq (Jvm.Term.static "java/lang/String" "COMPACT_STRINGS" "Z") (Jvm.Term.int (1 : Int32))), (Jvm.Cond.eq (Jvm.Term.string "StackAssembler$Scanner" (70 : Nat)) (Jvm.Term.string "StackAssembler$Printer" (100 : Nat))), (Jvm.Cond.eq (Jvm.Term.string "StackAssembler$Scanner" (76 : Nat)) (Jvm.Term.string "StackAssembler$Printer" (102 : Nat)))]
def kz_wnw : List Cond := (List.range 30).flatMap kz_wop ++ ((List.range 46).flatMap kz_wst ++ (kz_wal ++ (kz_whd ++ (kz_wsw ++ kz_wot))))
def kz_ixs : List Nat := [162, 164, 165, 166, 167, 168, 169, 163, 4, 6, 7, 8, 9, 10, 11, 5, 170, 172, 173, 174, 175, 176, 177, 171, 128, 130, 131, 132, 133, 134, 135, 129, 79, 81, 82, 83, 84, 85, 86, 80, 71, 73, 74, 75, 76, 77, 78, 72, 23, 25, 26, 27, 28, 29, 30, 24, 178, 180, 181, 182, 183, 184, 185, 179, 136, 138, 139, 140, 141, 142, 143, 137, 186, 188, 189, 190, 191, 192, 193, 187, 87, 89, 90, 91, 92, 93, 94, 88, 194, 196, 197, 198, 199, 200, 201, 195, 202, 204, 205, 206, 207, 208, 209, 203, 144, 146, 147, 148, 149, 150, 151, 145, 152, 154, 155, 156, 157, 158, 159, 153, 210, 212, 213, 214, 215, 216, 217, 211, 218, 220, 221, 222, 223, 224, 225, 219, 226, 228, 229, 230, 231, 232, 233, 227, 234, 236, 237, 238, 239, 240, 241, 235, 242, 244, 245, 246, 247, 248, 249, 243, 250, 252, 253, 254, 255, 256, 257, 251, 258, 260, 261, 262, 263, 264, 265, 259, 266, 268, 269, 270, 271, 272, 273, 267, 274, 276, 277, 278, 279, 280, 281, 275, 282, 284, 285, 286, 287, 288, 289, 283, 290, 292, 293, 294, 295, 296, 297, 291, 298, 300, 301, 302, 303, 304, 305, 299, 306, 308, 309, 310, 311, 312, 313, 307, 314, 316, 317, 318, 319, 320, 321, 315, 322, 324, 325, 326, 327, 328, 329, 323, 375, 376, 377, 378, 379, 380, 381, 382, 383, 384, 385, 386, 387, 388, 389, 390, 391, 392, 393, 394, 395, 396, 397, 398, 399, 400, 401, 402, 403, 404, 405, 406, 407, 408, 409, 410, 411, 412, 413, 414, 415, 416, 417, 418, 419, 420, 421, 422, 423, 424, 425, 426, 427, 428, 429, 430, 431, 432, 433, 434, 435, 436, 437, 438, 439, 440, 441, 442, 443, 444, 445, 446, 447, 448, 449, 450, 451, 452, 453, 454, 455, 456, 457, 458, 459, 460, 461, 462, 463, 464, 465, 466, 467, 468, 469, 470, 471, 472, 473, 474, 475, 476, 477, 478, 479, 480, 481, 482, 483, 484, 485, 486, 487, 488, 489, 490, 491, 492, 493, 494, 495, 496, 497, 498, 499, 500, 501, 502, 503, 504, 505, 506, 507, 508, 509, 510, 511, 512, 513, 514, 515, 516, 517, 518, 519, 520, 521, 522, 523, 524, 525, 526, 527, 528, 529, 530, 531, 532, 533, 534, 535, 536, 537, 538, 555, 556, 557, 558, 559, 560, 561, 562, 563, 564, 565, 566, 567, 568, 569, 570, 571, 572, 573, 574, 575, 576, 577, 578, 579, 580, 581, 582, 583, 584, 585, 586, 587, 588, 589, 590, 591, 592, 593, 594, 595, 596, 597, 598, 599, 600, 601, 602, 603, 604, 605, 606, 607, 608, 609, 610, 611, 612, 613, 614, 615, 616, 617, 618, 619, 620, 621, 622, 623, 624, 625, 626, 627, 628, 629, 630, 631, 632, 633, 634, 635, 636, 637, 638, 639, 640, 641, 642, 643, 644, 645, 646, 647, 648, 649, 650, 651, 652, 653, 654, 655, 656, 657, 658, 659, 660, 661, 662, 663, 664, 665, 666, 667, 668, 669, 670, 671, 672, 673, 674, 675, 676, 677, 678, 679, 680, 681, 682, 683, 684, 685, 686, 687, 688, 689, 690, 691, 692, 693, 694, 695, 696, 697, 698, 699, 700, 701, 702, 703, 704, 705, 706, 707, 708, 709, 710, 711, 712, 713, 714, 715, 716, 717, 718, 719, 720, 721, 722, 723, 724, 725, 726, 727, 728, 729, 730, 731, 732, 733, 734, 735, 736, 737, 738, 739, 740, 741, 742, 743, 744, 745, 746, 747, 748, 749, 750, 751, 752, 753, 754, 755, 756, 757, 758, 759, 760, 761, 762, 763, 764, 765, 766, 767, 768, 769, 770, 771, 772, 773, 774, 775, 776, 777, 778, 779, 780, 781, 782, 783, 784, 785, 786, 787, 788, 789, 790, 791, 792, 793, 794, 795, 796, 797, 798, 799, 800, 801, 802, 803, 804, 805, 806, 807, 808, 809, 810, 811, 812, 813, 814, 815, 816, 817, 818, 819, 820, 821, 822, 823, 824, 825, 826, 827, 828, 829, 830, 831, 832, 833, 834, 835, 836, 837, 838, 839, 840, 841, 842, 843, 844, 845, 846, 847, 848, 849, 850, 851, 852, 853, 854, 855, 856, 857, 858, 859, 860, 861, 862, 863, 864, 865, 866, 867, 868, 869, 870, 871, 872, 873, 874, 875, 876, 877, 878, 879, 880, 881, 882, 883, 884, 885, 886, 887, 888, 889, 890, 891, 892, 893, 894, 895, 896, 897, 898, 899, 900, 901, 902, 903, 904, 905, 906, 907, 908, 909, 910, 911, 912, 913, 914, 915, 916, 917, 918, 919, 920, 921, 922, 923, 924, 925, 926, 927, 928, 929, 33, 34, 36, 37, 38, 39, 40, 41, 42, 43, 44, 45, 46, 47, 48, 49, 50, 51, 52, 53, 54, 55, 56, 57, 58, 59, 60, 61, 62, 63, 64, 65, 13, 14, 15, 16, 17, 18, 19, 20, 21, 22, 96, 97, 98, 99, 100, 101, 102, 103, 104, 105, 106, 107, 108, 109, 110, 111, 112, 113, 114, 115, 116, 117, 118, 119, 120, 121, 122, 123, 124, 125, 126, 127, 358, 373, 343, 374, 344, 359, 67, 160, 161, 66, 546, 554]
def kz_fnw : List Cond := flatC (Jvm.Cond.and given_1 narrow_1)
def kz_pck : List Cond → List Nat → Bool
  | [], _ => true
  | _ :: _, [] => false
  | w :: ws, i :: is => decide (kz_fnw[i]? = some w) && kz_pck ws is
theorem kz_pck_ok : ∀ (ws : List Cond) (is : List Nat), kz_pck ws is = true → ∀ w ∈ ws, w ∈ kz_fnw
  | [], _, _, _, hw => by cases hw
  | _ :: _, [], h, _, _ => by cases h
  | w :: ws, i :: is, h, v, hv => by
    simp only [kz_pck, Bool.and_eq_true, decide_eq_true_eq] at h
    rcases List.mem_cons.mp hv with z | z
    · rw [z]; exact List.mem_of_getElem? h.1
    · exact kz_pck_ok ws is h.2 v z
set_option maxRecDepth 100000 in
theorem kz_nar : kz_pck kz_wnw kz_ixs = true := by decide +kernel
theorem kz_narrow {args : Array Value} {s : State} (h : (Jvm.Cond.and given_1 narrow_1).before args s = true) : ∀ w ∈ kz_wnw, w.before args s = true := fun w hw => flat_of_before _ h w (kz_pck_ok _ _ kz_nar w hw)
