/-! CORE, first part: the methods' table read, the checks of its rows -/
abbrev xm_H : Type := List (Nat × Nat) × (Nat → Nat → Option Nat) × (Nat → Nat → Int32)
/-- class numbers, the three array classes, the script -/
abbrev xm_G : Type := va_G × ClassId × ClassId × ClassId × (Nat × (Nat → Int32))
abbrev xm_nm (y : Nat) : MethodName := (xm_at y).1
abbrev xm_by (y : Nat) : ByteArray := (xm_at y).2.1
abbrev xm_mL (y : Nat) : Nat := (xm_at y).2.2.1
abbrev xm_rt (y : Nat) : Option FieldType := (xm_at y).2.2.2.1
abbrev xm_kd (y : Nat) : Nat := (xm_at y).2.2.2.2.1
abbrev xm_np (y : Nat) : Nat := (xm_at y).2.2.2.2.2.1
abbrev xm_rw (y : Nat) : List xm_Op := (xm_at y).2.2.2.2.2.2
def xm_op (y pc : Nat) : Option xm_Op := (xm_rw y).find? (fun o => o.1 == pc)
/-- where a word stands in the tables (found by program; a wrong place would only let a check fall) -/
def xm_cn (s : String) : Nat := if s = "LatinLawsLaw" then 0 else if s = "LatinLaws" then 1 else if s = "LatinLaws$Table" then 2 else if s = "java/lang/Math" then 3 else if s = "java/util/Arrays" then 4 else if s = "LatinLaws$Endings" then 5 else if s = "LatinLaws$Turns" then 6 else if s = "LatinLaws$Renamings" then 7 else if s = "LatinLawsModel" then 8 else if s = "java/lang/System" then 9 else if s = "LatinLaws$Laws" then 10 else if s = "LatinLaws$Joining" then 11 else if s = "LatinLaws$Parts" then 12 else if s = "java/lang/Integer" then 13 else if s = "LatinLaws$Squares" then 14 else if s = "LatinLaws$Larger" then 15 else if s = "java/lang/Object" then 16 else 17
def xm_hl : Nat → List Nat
  | 0 => [0, 0, 0, 0, 0, 0, 0, 59, 0, 61, 584, 0, 586, 211, 0, 0, 0, 614, 222, 0, 0, 0, 628, 243, 0, 0, 0, 640, 247, 0, 0, 0, 648, 255, 0, 0, 656, 285, 0, 0, 668, 290, 0, 0, 672, 307, 0, 0, 688, 335, 0, 0, 699, 355, 0, 0, 707, 376, 0, 0, 722, 392, 0, 0, 734, 402, 0, 0, 738, 427, 0, 0, 749, 474, 0, 0, 0, 761, 506, 0, 0, 780, 532, 0, 0, 784, 552, 0, 0, 792, 560, 0, 0, 796, 573, 0, 0, 800, 580, 0, 0, 804]
  | 1 => [0, 64, 0, 0, 0, 0, 0, 0, 0, 67, 0, 195, 0, 0, 0, 70, 196, 0, 0, 0, 108, 0, 110, 197, 0, 0, 0, 142, 0, 144, 198, 0, 0, 0, 170, 0, 172, 199, 0, 0, 0, 215, 0, 0, 0, 221, 0, 0, 0, 226, 0, 0, 0, 230, 0, 0, 0, 238, 0, 0, 0, 239, 0, 0, 0, 240, 0, 0, 0, 251, 0, 0, 0, 100, 0, 0, 0, 259, 0, 0, 0, 117, 0, 0, 289, 0, 0, 0, 218, 0, 0, 294, 0, 0, 0, 299, 0, 0, 303, 0, 0, 311, 0, 0, 0, 0, 332, 0, 0, 339, 0, 0, 0, 0, 359, 0, 0, 363, 0, 0, 0, 0, 380, 0, 0, 396, 0, 0, 401, 0, 0, 0, 406, 0, 0, 0, 423, 0, 0, 431, 0, 0, 478, 0, 0, 0, 0, 479, 0, 0, 0, 505, 0, 0, 0, 510, 0, 0, 179, 0, 0, 536, 0, 0, 546, 0, 0, 556, 0, 0, 0, 564, 0, 0, 0, 0, 577, 0, 0, 0, 400]
  | 2 => [0, 0, 0, 73, 0, 0, 0, 0, 0, 101, 0, 0, 0, 0, 0, 74, 0, 0, 0, 78, 0, 0, 0, 0, 0, 81, 0, 0, 96, 0, 0, 0, 84, 0, 0, 0, 0, 0, 87, 0, 0, 0, 267, 0, 0, 0, 0, 0, 234, 0, 0, 298]
  | 3 => [0]
  | 4 => [0]
  | 5 => [0, 0, 0, 113, 0, 0, 0, 0, 0, 114, 0, 115, 116, 0, 0, 0, 0, 0, 118, 0, 0, 119, 0, 0, 0, 121, 0, 0, 122, 0, 0, 263, 0, 0, 0, 124, 0, 0, 0, 123, 0, 0, 270, 0, 0, 276, 0, 0, 0, 274, 0, 0, 0, 0, 120, 0, 0, 97, 0, 0, 275, 0, 0, 0, 280, 0, 0, 284]
  | 6 => [0, 0, 0, 147, 0, 0, 0, 0, 0, 0, 0, 149, 0, 0, 0, 150, 0, 0, 151, 0, 0, 152, 0, 0, 154, 0, 0, 91, 0, 0, 0, 0, 0, 435, 0, 0, 0, 0, 0, 148, 153, 0, 0, 436, 0, 0, 0, 0, 0, 437, 0, 0, 0, 461, 0, 0, 469, 0, 0, 0, 441, 0, 0, 442, 0, 0, 465, 0, 0, 0, 458, 0, 0, 0, 0, 0, 0, 0, 447, 0, 0, 454, 0, 0, 0, 451, 0, 0, 0, 473]
  | 7 => [0, 0, 0, 175, 0, 0, 0, 0, 0, 176, 0, 177, 178, 0, 0, 0, 0, 0, 180, 0, 0, 0, 181, 0, 0, 182, 0, 0, 95, 0, 0, 0, 496, 0, 0, 0, 483, 0, 0, 0, 492, 0, 0, 0, 486, 0, 0, 0, 487, 0, 0, 0, 488, 0, 0, 491, 0, 0, 0, 500, 0, 0, 0, 0, 0, 0, 514, 0, 0, 0, 183, 0, 0, 515, 0, 0, 0, 0, 0, 516, 0, 0, 0, 520, 0, 0, 524, 0, 0, 0, 528]
  | 8 => [0, 589, 0, 0, 0, 0, 0, 591, 0, 0, 0, 0, 0, 592, 0, 0, 594, 0, 0, 595, 0, 0, 590, 596, 0, 0, 597, 0, 0, 0, 621, 0, 0, 0, 618, 0, 0, 0, 624, 0, 0, 0, 636, 0, 0, 0, 632, 0, 0, 0, 644, 0, 0, 0, 652, 0, 0, 0, 664, 0, 0, 0, 593, 0, 0, 0, 660, 0, 0, 0, 676, 0, 0, 680, 0, 0, 684, 0, 0, 692, 0, 0, 695, 0, 0, 0, 703, 0, 0, 719, 0, 0, 711, 0, 0, 715, 0, 0, 730, 0, 0, 0, 726, 0, 0, 742, 0, 0, 746, 0, 0, 757, 0, 0, 753, 0, 0, 769, 0, 0, 772, 0, 0, 0, 776, 0, 0, 765, 0, 0, 788]
  | 9 => [0]
  | 10 => [0, 0, 0, 0, 0, 0, 0, 0, 0, 314, 0, 0, 0, 0, 0, 98, 0, 0, 0, 0, 0, 317, 0, 0, 0, 320, 0, 0, 0, 323, 0, 0, 0, 329, 0, 0, 326, 0, 0, 0, 327, 0, 0, 328]
  | 11 => [0, 0, 0, 0, 0, 0, 0, 93, 0, 0, 0, 0, 0, 0, 0, 342, 0, 0, 0, 345, 0, 0, 0, 348, 0, 0, 0, 351, 0, 0, 0, 354]
  | 12 => [0, 0, 0, 0, 0, 0, 0, 0, 0, 366, 0, 0, 0, 0, 0, 99, 0, 0, 0, 0, 0, 369, 0, 0, 0, 372, 0, 0, 0, 383, 0, 0, 0, 386, 0, 0, 389, 0, 0, 375, 0, 0, 0, 409, 0, 0, 412, 0, 0, 0, 0, 0, 418, 0, 0, 0, 419, 0, 0, 422]
  | 13 => [0, 0, 0, 0, 0, 0, 0, 0, 0, 0, 0, 0, 0, 0, 0, 0, 0, 0, 0, 0, 0, 0, 0, 0, 0, 0, 0, 0, 0, 0, 0, 0, 0, 0, 0, 0, 0, 0, 0, 0, 0, 0, 0, 0, 0, 0, 0, 0, 0, 0, 0, 0, 0, 0, 0, 0, 0, 0, 0, 0, 0, 0, 0, 0, 0, 0, 0, 0, 0, 0, 0, 0, 0, 0, 0, 0, 0, 0, 0, 0, 0, 0, 0, 0, 0, 0, 0, 0, 0, 0, 0, 0, 0, 0, 0, 0, 0, 0, 0, 0, 0, 0, 0, 0, 0, 0, 0, 0, 0, 0, 0, 0, 0, 0, 0, 0, 0, 0, 0, 0, 0, 0, 0, 0, 0, 0, 0, 0, 0, 0, 0, 0, 0, 0, 0, 0, 0, 0, 0, 0, 0, 0, 0, 0, 0, 0, 0, 0, 0, 0, 0, 0, 0, 0, 0, 0, 0, 0, 0, 0, 0, 0, 0, 0, 0, 0, 0, 0, 0, 0, 0, 0, 0, 0, 0, 0, 0, 0, 0, 0, 0, 0, 0, 0, 0, 0, 0, 0, 0, 0, 0, 0, 0, 0, 0, 0, 0, 0, 0, 0, 0, 0, 0, 0, 0, 0, 0, 0, 0, 0, 0, 0, 0, 0, 0, 0, 0, 0, 0, 0, 0, 0, 0, 0, 0, 0, 0, 0, 0, 0, 0, 0, 0, 0, 0, 0, 0, 0, 0, 0, 0, 0, 0, 0, 0, 0, 0, 0, 0, 0, 0, 0, 0, 0, 0, 0, 0, 0, 0, 0, 0, 0, 0, 0, 0, 415, 416, 417]
  | 14 => [0, 0, 0, 0, 0, 0, 0, 0, 0, 94, 0, 0, 0, 0, 0, 539, 0, 0, 0, 0, 0, 549, 0, 0, 0, 542, 0, 0, 0, 545, 0, 0, 0, 559]
  | 15 => [0, 0, 0, 0, 0, 0, 0, 92, 0, 0, 0, 0, 0, 567, 0, 0, 0, 568, 0, 0, 0, 0, 0, 571, 0, 0, 0, 572]
  | 16 => [0]
  | _ => []
def xm_hm : Nat → List (String × String × Nat × Nat × Nat)
  | 0 => []
  | 1 => [("<init>", "()V", 63, 62, 0), ("table", "(II)I", 214, 212, 213), ("isTable", "(I)Z", 217, 216, 0), ("isBelow", "(II)Z", 220, 219, 0), ("set", "(IIII)I", 225, 223, 224), ("isElement", "(II)Z", 229, 228, 0), ("orNone", "(I)I", 242, 241, 0), ("at", "(III)I", 246, 244, 245), ("empty", "(I)I", 250, 248, 249), ("ways", "(II)I", 258, 256, 257), ("end", "(II)I", 288, 286, 287), ("divide", "(IIII)I", 293, 291, 292), ("law", "(III)I", 310, 308, 309), ("joining", "(II)I", 338, 336, 337), ("made", "(II)I", 358, 356, 357), ("isSet", "(II)Z", 362, 361, 4), ("parts", "(II)I", 379, 377, 378), ("normal", "(II)I", 395, 393, 394), ("faultOfPart", "(II)I", 399, 398, 5), ("left", "(III)I", 405, 403, 404), ("keepBuilt", "(I)I", 426, 425, 6), ("group", "(I)I", 430, 428, 429), ("alike", "(IIZ)I", 477, 475, 476), ("name", "(II)I", 509, 507, 508), ("square", "(II)I", 535, 533, 534), ("turn", "(II)I", 555, 553, 554), ("doubled", "(III)I", 563, 561, 562), ("product", "(III)I", 576, 574, 575), ("size", "(I)I", 583, 581, 582)]
  | 2 => [("<init>", "()V", 72, 71, 0), ("restart", "(I)V", 77, 75, 76), ("put", "(III)V", 90, 88, 89), ("hasInLines", "(III)Z", 233, 231, 232), ("times", "(II)I", 237, 235, 236), ("countEmpty", "()I", 254, 252, 253), ("takeOver", "(LLatinLaws$Table;)V", 266, 264, 265), ("isFull", "()Z", 297, 295, 296), ("under", "(II)I", 302, 300, 301), ("over", "(II)I", 306, 304, 305)]
  | 3 => [("min", "(II)I", 80, 79, 0), ("max", "(II)I", 83, 82, 0)]
  | 4 => [("fill", "([II)V", 86, 85, 0)]
  | 5 => [("<init>", "()V", 112, 111, 0), ("count", "(LLatinLaws$Table;I)I", 262, 260, 261), ("lookOver", "()V", 273, 272, 1), ("fill", "(I)V", 279, 278, 2), ("keepFound", "()V", 283, 282, 3)]
  | 6 => [("<init>", "()V", 146, 145, 0), ("count", "(LLatinLaws$Table;)I", 434, 432, 433), ("takeTurns", "(LLatinLaws$Table;)V", 440, 439, 7), ("take", "()V", 445, 444, 8), ("keep", "(II)V", 450, 449, 9), ("write", "([IIII)V", 453, 452, 0), ("undo", "(I)V", 457, 456, 10), ("read", "([III)I", 460, 459, 0), ("takeProducts", "()V", 464, 463, 11), ("takeProduct", "(II)V", 468, 467, 12), ("countChoices", "()I", 472, 471, 13)]
  | 7 => [("<init>", "()V", 174, 173, 0), ("areAlikeByThree", "(LLatinLaws$Table;LLatinLaws$Table;LLatinLaws$Table;)Z", 482, 480, 481), ("buildOther", "(LLatinLaws$Table;IILLatinLaws$Table;)V", 485, 484, 0), ("swap", "(II)I", 490, 489, 0), ("areAlike", "(LLatinLaws$Table;LLatinLaws$Table;)Z", 495, 493, 494), ("match", "(LLatinLaws$Table;LLatinLaws$Table;II)Z", 499, 498, 14), ("agrees", "(LLatinLaws$Table;LLatinLaws$Table;II)Z", 503, 502, 15), ("findLeast", "(LLatinLaws$Table;)I", 513, 511, 512), ("giveNames", "(LLatinLaws$Table;I)V", 519, 518, 16), ("keepRenamed", "(LLatinLaws$Table;)V", 523, 522, 17), ("compare", "(LLatinLaws$Table;I)I", 527, 526, 18), ("renamed", "(LLatinLaws$Table;II)I", 531, 530, 19)]
  | 8 => [("<init>", "()V", 588, 587, 0), ("table", "(II)I", 617, 615, 616), ("isTable", "(I)Z", 620, 619, 0), ("in", "(III)Z", 623, 622, 0), ("puts", "(IIII)V", 627, 626, 20), ("set", "(IIII)I", 631, 629, 630), ("stands", "(IIII)Z", 635, 634, 21), ("cell", "(III)I", 639, 638, 22), ("at", "(III)I", 643, 641, 642), ("isElement", "(II)Z", 647, 646, 23), ("empty", "(I)I", 651, 649, 650), ("empties", "(I)I", 655, 654, 24), ("ways", "(II)I", 659, 657, 658), ("ends", "(II)I", 663, 662, 25), ("copies", "(II)V", 667, 666, 26), ("end", "(II)I", 671, 669, 670), ("divide", "(IIII)I", 675, 673, 674), ("isFull", "(I)Z", 679, 678, 27), ("behind", "(III)I", 683, 682, 28), ("ahead", "(III)I", 687, 686, 29), ("law", "(III)I", 691, 689, 690), ("letters", "(I)I", 694, 693, 0), ("holds", "(IIIII)Z", 698, 697, 30), ("joining", "(II)I", 702, 700, 701), ("isJoining", "(III)Z", 706, 705, 31), ("made", "(II)I", 710, 708, 709), ("isSet", "(II)Z", 714, 713, 32), ("closed", "(II)I", 718, 717, 33), ("has", "(II)Z", 721, 720, 0), ("parts", "(II)I", 725, 723, 724), ("isNormal", "(II)Z", 729, 728, 34), ("times", "(IIIZ)I", 733, 732, 35), ("normal", "(II)I", 737, 735, 736), ("left", "(III)I", 741, 739, 740), ("named", "(III)I", 745, 744, 36), ("lowest", "(I)I", 748, 747, 0), ("group", "(I)I", 752, 750, 751), ("joins", "(II)I", 756, 755, 37), ("rank", "(I)I", 760, 759, 38), ("alike", "(IIZ)I", 764, 762, 763), ("isAlike", "(III)Z", 768, 767, 39), ("factorial", "(I)I", 771, 770, 0), ("renames", "(III)V", 775, 774, 40), ("against", "(II)I", 779, 778, 41), ("name", "(II)I", 783, 781, 782), ("square", "(II)I", 787, 785, 786), ("squares", "(II)I", 791, 790, 42), ("turn", "(II)I", 795, 793, 794), ("doubled", "(III)I", 799, 797, 798), ("product", "(III)I", 803, 801, 802), ("size", "(I)I", 807, 805, 806)]
  | 9 => [("arraycopy", "(Ljava/lang/Object;ILjava/lang/Object;II)V", 0, 268, 0)]
  | 10 => [("firstBroken", "(LLatinLaws$Table;I)I", 313, 312, 0), ("look", "(LLatinLaws$Table;IZ)I", 316, 315, 0), ("countLetters", "(I)I", 319, 318, 0), ("holds", "(LLatinLaws$Table;IIII)Z", 322, 321, 0), ("holdsForTwo", "(LLatinLaws$Table;III)Z", 325, 324, 0), ("holdsForThree", "(LLatinLaws$Table;IIII)Z", 331, 330, 0), ("countBroken", "(LLatinLaws$Table;I)I", 334, 333, 0)]
  | 11 => [("all", "(LLatinLaws$Table;I)I", 341, 340, 0), ("isInMidst", "(LLatinLaws$Table;I)Z", 344, 343, 0), ("isIn", "(LLatinLaws$Table;II)Z", 347, 346, 0), ("holds", "(LLatinLaws$Table;IIII)Z", 350, 349, 0), ("joins", "(LLatinLaws$Table;III)Z", 353, 352, 0)]
  | 12 => [("leastWith", "(LLatinLaws$Table;I)I", 365, 364, 0), ("withProducts", "(LLatinLaws$Table;I)I", 368, 367, 0), ("has", "(II)Z", 371, 370, 0), ("fromLeft", "(LLatinLaws$Table;II)I", 374, 373, 0), ("count", "(LLatinLaws$Table;Z)I", 382, 381, 0), ("isPart", "(LLatinLaws$Table;I)Z", 385, 384, 0), ("isNormal", "(LLatinLaws$Table;I)Z", 388, 387, 0), ("fromRight", "(LLatinLaws$Table;II)I", 391, 390, 0), ("buildLeft", "(LLatinLaws$Table;ILLatinLaws$Table;)V", 408, 407, 0), ("leastBeside", "(LLatinLaws$Table;II)I", 411, 410, 0), ("place", "(II)I", 421, 420, 0)]
  | 13 => [("bitCount", "(I)I", 414, 413, 0)]
  | 14 => [("count", "(LLatinLaws$Table;)I", 538, 537, 0), ("countInRows", "(LLatinLaws$Table;II)I", 541, 540, 0), ("isSquare", "(LLatinLaws$Table;IIII)Z", 544, 543, 0), ("find", "(LLatinLaws$Table;I)I", 548, 547, 0), ("findColumns", "(LLatinLaws$Table;III)I", 551, 550, 0), ("change", "(LLatinLaws$Table;I)V", 558, 557, 0)]
  | 15 => [("buildDoubled", "(LLatinLaws$Table;ILLatinLaws$Table;)V", 566, 565, 0), ("signOf", "(III)I", 570, 569, 0), ("buildProduct", "(LLatinLaws$Table;LLatinLaws$Table;LLatinLaws$Table;)V", 579, 578, 0)]
  | 16 => [("<init>", "()V", 66, 65, 0)]
  | _ => []
def xm_hi : Nat → Nat
  | 0 => 43
  | 1 => 44
  | 2 => 45
  | 3 => 46
  | 4 => 47
  | 5 => 48
  | 6 => 49
  | 7 => 50
  | 8 => 51
  | 9 => 52
  | 10 => 53
  | 11 => 54
  | 12 => 55
  | 13 => 56
  | 14 => 57
  | 15 => 58
  | 16 => 0
  | _ => 0
def xm_hf (x : MethodName) : Nat × Nat × Nat := match (xm_hm (xm_cn x.cls)).find? (fun q => decide (q.1 = x.name) && decide (q.2.1 = x.desc)) with
  | some q => q.2.2
  | none => (0, 0, 0)
def xm_hint : Cond → Nat
  | .code x _ _ _ => (xm_hf x).1
  | .static x => (xm_hf x).2.1
  | .instanceMethod x => (xm_hf x).2.1
  | .selects _ x _ => (xm_hf x).2.2
  | .methodLink c i _ => (xm_hl (xm_cn c)).getD i 0
  | .fieldLink c i _ _ _ => (xm_hl (xm_cn c)).getD i 0
  | .classLink c i _ => (xm_hl (xm_cn c)).getD i 0
  | .constant c i _ => (xm_hl (xm_cn c)).getD i 0
  | .initialized c => xm_hi (xm_cn c)
  | _ => 0
def xm_mem (w : Cond) : List Cond → Bool
  | [] => false
  | v :: l => bif decide (v = w) then true else xm_mem w l
theorem xm_mem_t {w : Cond} : ∀ {l : List Cond}, xm_mem w l = true → w ∈ l
  | [], h => by cases h
  | v :: l, h => by
    unfold xm_mem at h
    cases h2 : decide (v = w) with
    | false =>
      rw [h2] at h
      exact List.mem_cons_of_mem _ (xm_mem_t h)
    | true =>
      rw [of_decide_eq_true h2]
      exact List.mem_cons_self ..
def xm_in (w : Cond) : Bool := (xm_mem w (lw_tbl.drop (xm_hint w)) || decide (w ∈ lw_tbl)) && goodWord w
theorem xm_in_t {w : Cond} (h : xm_in w = true) : w ∈ lw_tbl ∧ goodWord w = true := by
  unfold xm_in at h
  rw [Bool.and_eq_true, Bool.or_eq_true, decide_eq_true_eq] at h
  exact ⟨h.1.elim (fun q => List.mem_of_mem_drop (xm_mem_t q)) id, h.2⟩
def xm_iB (i : Nat) (w : Cond) : Bool := xm_mem w (lw_tbl.drop i) && goodWord w
theorem xm_iA (i : Nat) (w : Cond) (h : xm_iB i w = true) : xm_in w = true := by
  unfold xm_iB at h
  rw [Bool.and_eq_true] at h
  unfold xm_in
  rw [Bool.and_eq_true, Bool.or_eq_true, decide_eq_true_eq]
  exact ⟨Or.inr (List.mem_of_mem_drop (xm_mem_t h.1)), h.2⟩
def xm_len : Instr → Nat
  | .bipush _ => 2
  | .ldc _ => 2
  | .iload _ => 2
  | .aload _ => 2
  | .istore _ => 2
  | .astore _ => 2
  | .newarray _ => 2
  | .sipush _ => 3
  | .ldc_w _ => 3
  | .iinc _ _ => 3
  | .ifCond _ _ => 3
  | .if_icmp _ _ => 3
  | .goto _ => 3
  | .getfield _ => 3
  | .putfield _ => 3
  | .invokestatic _ => 3
  | .invokevirtual _ => 3
  | .invokespecial _ => 3
  | .new _ => 3
  | .anewarray _ => 3
  | .tableswitch _ _ _ _ => 0
  | _ => 1
def xm_fld (y i a b : Nat) : Bool := match xm_cl[a]? with
  | some c => decide (b < c.2.2) && xm_in (.fieldLink (xm_nm y).cls i (c.2.1 b).1 (c.2.1 b).2.1 (c.2.1 b).2.2.1)
  | none => false
def xm_fin (y a b : Nat) : Bool := match xm_cl[a]? with
  | some c => !(c.2.1 b).2.2.2 || (decide ((xm_nm y).name = "<init>") && decide ((c.2.1 b).1 = (xm_nm y).cls))
  | none => false
def xm_lnk (y : Nat) (o : xm_Op) : Bool := match o.2.1 with
  | .getfield i => xm_fld y i o.2.2.2.1 o.2.2.2.2
  | .putfield i => xm_fld y i o.2.2.2.1 o.2.2.2.2 && xm_fin y o.2.2.2.1 o.2.2.2.2
  | .new i => match xm_cl[o.2.2.2.1]? with
    | some c => xm_in (.classLink (xm_nm y).cls i c.1) && xm_in (.instantiable c.1 c.2.2) && xm_in (.initialized c.1)
    | none => false
  | .anewarray i => xm_in (.classLink (xm_nm y).cls i "LatinLaws$Table")
  | .newarray t => (decide (t = .int) && xm_in (.arrayClass .int)) || (decide (t = .boolean) && xm_in (.arrayClass .boolean))
  | .ldc i => xm_in (.constant (xm_nm y).cls i (Int32.ofNat o.2.2.2.1))
  | .ldc_w i => xm_in (.constant (xm_nm y).cls i (Int32.ofNat o.2.2.2.1))
  | .invokestatic i => match o.2.2.2.2 with
    | 0 => decide (o.2.2.2.1 < xm_N - 1) && decide (xm_kd o.2.2.2.1 = 0) && xm_in (.methodLink (xm_nm y).cls i (xm_nm o.2.2.2.1))
    | 1 => decide (o.2.2.2.1 = xi_L_isBelow) && (decide ((xm_nm y).cls = "LatinLaws$Turns" ∧ i = 74) || decide ((xm_nm y).cls = "LatinLaws$Renamings" ∧ i = 62))
    | _ => xm_in (.methodLink (xm_nm y).cls i arraycopyName) && xm_in (.native arraycopyName) && xm_in (.static arraycopyName) && xm_in (.initialized "java/lang/System")
  | .invokevirtual i => decide (o.2.2.2.1 < xm_N - 1) && decide (xm_kd o.2.2.2.1 = 1) && xm_in (.methodLink (xm_nm y).cls i (xm_nm o.2.2.2.1))
  | .invokespecial i => match o.2.2.2.2 with
    | 0 => decide (o.2.2.2.1 < xm_N - 1) && decide (xm_kd o.2.2.2.1 = 2) && xm_in (.methodLink (xm_nm y).cls i (xm_nm o.2.2.2.1))
    | _ => xm_in (.methodLink (xm_nm y).cls i objectInit) && xm_in (.instanceMethod objectInit) && xm_in (.code objectInit ⟨#[0xb1]⟩ 1 none)
  | _ => true
def xm_ochk (y : Nat) (o : xm_Op) : Bool := decide (decode (xm_by y) o.1 = .ok (o.2.1, o.2.2.1)) && (decide (xm_len o.2.1 = 0) || decide (xm_len o.2.1 = o.2.2.1)) && xm_lnk y o
def xm_mchk (y : Nat) : Bool := xm_in (.code (xm_nm y) (xm_by y) (xm_mL y) (xm_rt y)) && xm_in (.initialized (xm_nm y).cls) && decide (xm_np y ≤ 30) && decide ((xm_nm y).cls ≠ "java/lang/invoke/MethodHandle") && decide ((xm_nm y).cls ≠ "java/lang/invoke/VarHandle") && decide ((parseMethodDescriptor (xm_nm y).desc).map (fun d => d.parameters.length) = some (xm_np y)) && decide (xm_mL y ≤ 30) && match xm_kd y with
  | 0 => xm_in (.static (xm_nm y))
  | 1 => xm_in (.instanceMethod (xm_nm y)) && xm_in (.selects (xm_nm y).cls (xm_nm y) (xm_nm y))
  | _ => xm_in (.instanceMethod (xm_nm y)) && decide ((xm_nm y).name = "<init>") && decide (xm_rt y = none)
/-! the same checks; each link's word is looked up once -/
def xm_yn : List Nat := [2, 2, 2, 2, 2, 2, 2, 2, 2, 2, 5, 5, 5, 5, 5, 6, 6, 6, 6, 6, 6, 6, 6, 6, 6, 6, 7, 7, 7, 7, 7, 7, 7, 7, 7, 7, 7, 7, 1, 1, 1, 1, 1, 1, 1, 1, 1, 1, 1, 1, 1, 1, 1, 1, 1, 1, 1, 1, 1, 1, 1, 1, 1, 1, 1, 1, 1, 8, 8, 8, 8, 8, 8, 8, 8, 8, 8, 8, 8, 8, 8, 8, 8, 8, 8, 8, 8, 8, 8, 8, 8, 8, 8, 8, 8, 8, 8, 8, 8, 8, 8, 8, 8, 8, 8, 8, 8, 8, 8, 8, 8, 8, 8, 8, 8, 8, 8, 8, 11, 11, 11, 11, 11, 15, 15, 15, 10, 10, 10, 10, 10, 10, 10, 12, 12, 12, 12, 12, 12, 12, 12, 12, 12, 12, 14, 14, 14, 14, 14, 14, 13, 3, 3, 4, 0]
def xm_yc (y : Nat) : Nat := xm_yn.getD y 0
def xm_cs : Nat → String
  | 0 => "LatinLawsLaw"
  | 1 => "LatinLaws"
  | 2 => "LatinLaws$Table"
  | 3 => "java/lang/Math"
  | 4 => "java/util/Arrays"
  | 5 => "LatinLaws$Endings"
  | 6 => "LatinLaws$Turns"
  | 7 => "LatinLaws$Renamings"
  | 8 => "LatinLawsModel"
  | 9 => "java/lang/System"
  | 10 => "LatinLaws$Laws"
  | 11 => "LatinLaws$Joining"
  | 12 => "LatinLaws$Parts"
  | 13 => "java/lang/Integer"
  | 14 => "LatinLaws$Squares"
  | 15 => "LatinLaws$Larger"
  | 16 => "java/lang/Object"
  | _ => ""
set_option maxRecDepth 100000 in
theorem xm_cs_ok : ∀ y, y < 155 → (xm_nm y).cls = xm_cs (xm_yc y) ∧ xm_yc y < 17 := by decide +kernel
def xm_lm : Nat → List Nat
  | 0 => [0, 0, 0, 0, 0, 0, 0, 0, 0, 39, 0, 0, 68, 40, 0, 0, 0, 69, 43, 0, 0, 0, 73, 46, 0, 0, 0, 76, 47, 0, 0, 0, 78, 48, 0, 0, 80, 49, 0, 0, 83, 50, 0, 0, 84, 51, 0, 0, 88, 52, 0, 0, 91, 53, 0, 0, 93, 55, 0, 0, 97, 56, 0, 0, 100, 58, 0, 0, 101, 60, 0, 0, 104, 61, 0, 0, 0, 107, 62, 0, 0, 112, 63, 0, 0, 113, 64, 0, 0, 115, 65, 0, 0, 116, 66, 0, 0, 117, 67, 0, 0, 118]
  | 1 => [0, 0, 0, 0, 0, 0, 0, 0, 0, 0, 0, 0, 0, 0, 0, 1, 0, 0, 0, 0, 0, 0, 11, 0, 0, 0, 0, 0, 0, 16, 0, 0, 0, 0, 0, 0, 27, 0, 0, 0, 0, 41, 0, 0, 0, 2, 0, 0, 0, 44, 0, 0, 0, 4, 0, 0, 0, 5, 0, 0, 0, 3, 0, 0, 0, 45, 0, 0, 0, 6, 0, 0, 0, 0, 0, 0, 0, 12, 0, 0, 0, 0, 0, 0, 7, 0, 0, 0, 42, 0, 0, 8, 0, 0, 0, 9, 0, 0, 10, 0, 0, 127, 0, 0, 0, 0, 133, 0, 0, 119, 0, 0, 0, 0, 54, 0, 0, 134, 0, 0, 0, 0, 138, 0, 0, 57, 0, 0, 140, 0, 0, 0, 142, 0, 0, 0, 59, 0, 0, 17, 0, 0, 153, 0, 0, 0, 0, 28, 0, 0, 0, 31, 0, 0, 0, 34, 0, 0, 0, 0, 0, 145, 0, 0, 148, 0, 0, 150, 0, 0, 0, 124, 0, 0, 0, 0, 126, 0, 0, 0, 139]
  | 2 => [0, 0, 0, 0, 0, 0, 0, 0, 0, 0, 0, 0, 0, 0, 0, 2, 0, 0, 0, 152, 0, 0, 0, 0, 0, 153, 0, 0, 0, 0, 0, 0, 154, 0, 0, 0, 0, 0, 3, 0, 0, 0, 0, 0, 0, 0, 0, 0, 5, 0, 0, 6]
  | 3 => []
  | 4 => []
  | 5 => [0, 0, 0, 0, 0, 0, 0, 0, 0, 0, 0, 1, 0, 0, 0, 0, 0, 0, 0, 0, 0, 0, 0, 0, 0, 0, 0, 0, 0, 0, 0, 7, 0, 0, 0, 0, 0, 0, 0, 0, 0, 0, 13, 0, 0, 14, 0, 0, 0, 154, 0, 0, 0, 0, 0, 0, 0, 0, 0, 0, 5, 0, 0, 0, 15, 0, 0, 3]
  | 6 => [0, 0, 0, 0, 0, 0, 0, 0, 0, 0, 0, 0, 0, 0, 0, 0, 0, 0, 0, 0, 0, 0, 0, 0, 0, 0, 0, 0, 0, 0, 0, 0, 0, 152, 0, 0, 0, 0, 0, 0, 0, 0, 0, 154, 0, 0, 0, 0, 0, 18, 0, 0, 0, 24, 0, 0, 26, 0, 0, 0, 5, 0, 0, 19, 0, 0, 25, 0, 0, 0, 23, 0, 0, 0, 0, 0, 0, 0, 20, 0, 0, 22, 0, 0, 0, 21, 0, 0, 0, 151]
  | 7 => [0, 0, 0, 0, 0, 0, 0, 0, 0, 0, 0, 1, 0, 0, 0, 0, 0, 0, 0, 0, 0, 0, 0, 0, 0, 0, 0, 0, 0, 0, 0, 0, 32, 0, 0, 0, 29, 0, 0, 0, 31, 0, 0, 0, 5, 0, 0, 0, 2, 0, 0, 0, 30, 0, 0, 3, 0, 0, 0, 33, 0, 0, 0, 0, 0, 0, 7, 0, 0, 0, 0, 0, 0, 154, 0, 0, 0, 0, 0, 35, 0, 0, 0, 36, 0, 0, 37, 0, 0, 0, 38]
  | 8 => [0, 0, 0, 0, 0, 0, 0, 0, 0, 0, 0, 0, 0, 0, 0, 0, 0, 0, 0, 0, 0, 0, 0, 0, 0, 0, 0, 0, 0, 0, 71, 0, 0, 0, 70, 0, 0, 0, 72, 0, 0, 0, 75, 0, 0, 0, 74, 0, 0, 0, 77, 0, 0, 0, 79, 0, 0, 0, 82, 0, 0, 0, 0, 0, 0, 0, 81, 0, 0, 0, 85, 0, 0, 86, 0, 0, 87, 0, 0, 89, 0, 0, 90, 0, 0, 0, 92, 0, 0, 96, 0, 0, 94, 0, 0, 95, 0, 0, 99, 0, 0, 0, 98, 0, 0, 102, 0, 0, 103, 0, 0, 106, 0, 0, 105, 0, 0, 109, 0, 0, 110, 0, 0, 0, 111, 0, 0, 108, 0, 0, 114]
  | 9 => []
  | 10 => [0, 0, 0, 0, 0, 0, 0, 0, 0, 128, 0, 0, 0, 0, 0, 0, 0, 0, 0, 0, 0, 129, 0, 0, 0, 130, 0, 0, 0, 131, 0, 0, 0, 132, 0, 0, 5, 0, 0, 0, 9, 0, 0, 10]
  | 11 => [0, 0, 0, 0, 0, 0, 0, 0, 0, 0, 0, 0, 0, 0, 0, 120, 0, 0, 0, 121, 0, 0, 0, 122, 0, 0, 0, 123, 0, 0, 0, 5]
  | 12 => [0, 0, 0, 0, 0, 0, 0, 0, 0, 135, 0, 0, 0, 0, 0, 0, 0, 0, 0, 0, 0, 136, 0, 0, 0, 137, 0, 0, 0, 139, 0, 0, 0, 140, 0, 0, 141, 0, 0, 5, 0, 0, 0, 143, 0, 0, 151, 0, 0, 0, 0, 0, 2, 0, 0, 0, 144, 0, 0, 3]
  | 13 => []
  | 14 => [0, 0, 0, 0, 0, 0, 0, 0, 0, 0, 0, 0, 0, 0, 0, 146, 0, 0, 0, 0, 0, 149, 0, 0, 0, 147, 0, 0, 0, 5, 0, 0, 0, 3]
  | 15 => [0, 0, 0, 0, 0, 0, 0, 0, 0, 0, 0, 0, 0, 2, 0, 0, 0, 125, 0, 0, 0, 0, 0, 5, 0, 0, 0, 3]
  | 16 => []
  | _ => []
def xm_lf : Nat → List Nat
  | 0 => []
  | 1 => [0, 0, 0, 0, 0, 0, 0, 0, 0, 0, 0, 65, 0, 0, 0, 0, 66, 0, 0, 0, 0, 0, 0, 67, 0, 0, 0, 0, 0, 0, 68, 0, 0, 0, 0, 0, 0, 69, 0, 0, 0, 0, 0, 0, 0, 0, 0, 0, 0, 0, 0, 0, 0, 0, 0, 0, 0, 0, 0, 0, 0, 0, 0, 0, 0, 0, 0, 0, 0, 0, 0, 0, 0, 1, 0, 0, 0, 0, 0, 0, 0, 17, 0, 0, 0, 0, 0, 0, 0, 0, 0, 0, 0, 0, 0, 0, 0, 0, 0, 0, 0, 0, 0, 0, 0, 0, 0, 0, 0, 0, 0, 0, 0, 0, 0, 0, 0, 0, 0, 0, 0, 0, 0, 0, 0, 0, 0, 0, 0, 0, 0, 0, 0, 0, 0, 0, 0, 0, 0, 0, 0, 0, 0, 0, 0, 0, 0, 0, 0, 0, 0, 0, 0, 0, 0, 0, 0, 0, 49]
  | 2 => [0, 0, 0, 0, 0, 0, 0, 0, 0, 2, 0, 0, 0, 0, 0, 0, 0, 0, 0, 0, 0, 0, 0, 0, 0, 0, 0, 0, 1]
  | 3 => []
  | 4 => []
  | 5 => [0, 0, 0, 0, 0, 0, 0, 0, 0, 0, 0, 0, 17, 0, 0, 0, 0, 0, 18, 0, 0, 19, 0, 0, 0, 21, 0, 0, 22, 0, 0, 0, 0, 0, 0, 24, 0, 0, 0, 23, 0, 0, 0, 0, 0, 0, 0, 0, 0, 0, 0, 0, 0, 0, 20, 0, 0, 1]
  | 6 => [0, 0, 0, 0, 0, 0, 0, 0, 0, 0, 0, 34, 0, 0, 0, 35, 0, 0, 36, 0, 0, 37, 0, 0, 39, 0, 0, 1, 0, 0, 0, 0, 0, 0, 0, 0, 0, 0, 0, 33, 38]
  | 7 => [0, 0, 0, 0, 0, 0, 0, 0, 0, 0, 0, 0, 49, 0, 0, 0, 0, 0, 50, 0, 0, 0, 51, 0, 0, 52, 0, 0, 1, 0, 0, 0, 0, 0, 0, 0, 0, 0, 0, 0, 0, 0, 0, 0, 0, 0, 0, 0, 0, 0, 0, 0, 0, 0, 0, 0, 0, 0, 0, 0, 0, 0, 0, 0, 0, 0, 0, 0, 0, 0, 53]
  | 8 => [0, 0, 0, 0, 0, 0, 0, 81, 0, 0, 0, 0, 0, 82, 0, 0, 84, 0, 0, 85, 0, 0, 0, 86, 0, 0, 87, 0, 0, 0, 0, 0, 0, 0, 0, 0, 0, 0, 0, 0, 0, 0, 0, 0, 0, 0, 0, 0, 0, 0, 0, 0, 0, 0, 0, 0, 0, 0, 0, 0, 0, 0, 83]
  | 9 => []
  | 10 => [0, 0, 0, 0, 0, 0, 0, 0, 0, 0, 0, 0, 0, 0, 0, 1]
  | 11 => [0, 0, 0, 0, 0, 0, 0, 1]
  | 12 => [0, 0, 0, 0, 0, 0, 0, 0, 0, 0, 0, 0, 0, 0, 0, 1]
  | 13 => []
  | 14 => [0, 0, 0, 0, 0, 0, 0, 0, 0, 1]
  | 15 => [0, 0, 0, 0, 0, 0, 0, 1]
  | 16 => []
  | _ => []
def xm_lmc (c : Nat) : Bool := (List.range (xm_lm c).length).all (fun i => match (xm_lm c).getD i 0 with
  | 0 => true
  | a + 1 => xm_iB ((xm_hl c).getD i 0) (.methodLink (xm_cs c) i (xm_nm a)))
def xm_lfc (c : Nat) : Bool := (List.range (xm_lf c).length).all (fun i => match (xm_lf c).getD i 0 with
  | 0 => true
  | k + 1 => match xm_cl[k / 16]? with
    | some q => xm_iB ((xm_hl c).getD i 0) (.fieldLink (xm_cs c) i (q.2.1 (k % 16)).1 (q.2.1 (k % 16)).2.1 (q.2.1 (k % 16)).2.2.1)
    | none => false)
set_option maxRecDepth 100000 in
theorem xm_lc0 : (xm_lmc 0 && xm_lfc 0) = true := by decide +kernel
set_option maxRecDepth 100000 in
theorem xm_lc1 : (xm_lmc 1 && xm_lfc 1) = true := by decide +kernel
set_option maxRecDepth 100000 in
theorem xm_lc2 : (xm_lmc 2 && xm_lfc 2) = true := by decide +kernel
set_option maxRecDepth 100000 in
theorem xm_lc3 : (xm_lmc 3 && xm_lfc 3) = true := by decide +kernel
set_option maxRecDepth 100000 in
theorem xm_lc4 : (xm_lmc 4 && xm_lfc 4) = true := by decide +kernel
set_option maxRecDepth 100000 in
theorem xm_lc5 : (xm_lmc 5 && xm_lfc 5) = true := by decide +kernel
set_option maxRecDepth 100000 in
theorem xm_lc6 : (xm_lmc 6 && xm_lfc 6) = true := by decide +kernel
set_option maxRecDepth 100000 in
theorem xm_lc7 : (xm_lmc 7 && xm_lfc 7) = true := by decide +kernel
set_option maxRecDepth 100000 in
theorem xm_lc8 : (xm_lmc 8 && xm_lfc 8) = true := by decide +kernel
set_option maxRecDepth 100000 in
theorem xm_lc9 : (xm_lmc 9 && xm_lfc 9) = true := by decide +kernel
set_option maxRecDepth 100000 in
theorem xm_lc10 : (xm_lmc 10 && xm_lfc 10) = true := by decide +kernel
set_option maxRecDepth 100000 in
theorem xm_lc11 : (xm_lmc 11 && xm_lfc 11) = true := by decide +kernel
set_option maxRecDepth 100000 in
theorem xm_lc12 : (xm_lmc 12 && xm_lfc 12) = true := by decide +kernel
set_option maxRecDepth 100000 in
theorem xm_lc13 : (xm_lmc 13 && xm_lfc 13) = true := by decide +kernel
set_option maxRecDepth 100000 in
theorem xm_lc14 : (xm_lmc 14 && xm_lfc 14) = true := by decide +kernel
set_option maxRecDepth 100000 in
theorem xm_lc15 : (xm_lmc 15 && xm_lfc 15) = true := by decide +kernel
set_option maxRecDepth 100000 in
theorem xm_lc16 : (xm_lmc 16 && xm_lfc 16) = true := by decide +kernel
theorem xm_lc : ∀ c, c < 17 → (xm_lmc c && xm_lfc c) = true := by
  intro c hc
  match c, hc with
  | 0, _ => exact xm_lc0
  | 1, _ => exact xm_lc1
  | 2, _ => exact xm_lc2
  | 3, _ => exact xm_lc3
  | 4, _ => exact xm_lc4
  | 5, _ => exact xm_lc5
  | 6, _ => exact xm_lc6
  | 7, _ => exact xm_lc7
  | 8, _ => exact xm_lc8
  | 9, _ => exact xm_lc9
  | 10, _ => exact xm_lc10
  | 11, _ => exact xm_lc11
  | 12, _ => exact xm_lc12
  | 13, _ => exact xm_lc13
  | 14, _ => exact xm_lc14
  | 15, _ => exact xm_lc15
  | 16, _ => exact xm_lc16
  | n + 17, h => exact absurd h (by omega)
theorem xm_gD {l : List Nat} {i k : Nat} (h : l.getD i 0 = k + 1) : i < l.length := by
  by_cases q : i < l.length
  · exact q
  · rw [List.getD_eq_getElem?_getD, List.getElem?_eq_none (by omega)] at h
    exact absurd h (by simp)
theorem xm_lm_t {y i a : Nat} (hy : y < 155) (h : (xm_lm (xm_yc y)).getD i 0 = a + 1) : xm_in (.methodLink (xm_nm y).cls i (xm_nm a)) = true := by
  obtain ⟨e, hc⟩ := xm_cs_ok y hy
  have q0 := xm_lc _ hc
  rw [Bool.and_eq_true] at q0
  have q1 := q0.1
  unfold xm_lmc at q1
  have q := List.all_eq_true.mp q1 i (List.mem_range.mpr (xm_gD h))
  simp only [h] at q
  rw [e]
  exact xm_iA _ _ q
theorem xm_lf_t {y i a b : Nat} {c : vw_C} (hy : y < 155) (hc : xm_cl[a]? = some c) (hb : b < 16) (h : (xm_lf (xm_yc y)).getD i 0 = 16 * a + b + 1) : xm_in (.fieldLink (xm_nm y).cls i (c.2.1 b).1 (c.2.1 b).2.1 (c.2.1 b).2.2.1) = true := by
  obtain ⟨e, hd⟩ := xm_cs_ok y hy
  have q0 := xm_lc _ hd
  rw [Bool.and_eq_true] at q0
  have q1 := q0.2
  unfold xm_lfc at q1
  have q := List.all_eq_true.mp q1 i (List.mem_range.mpr (xm_gD h))
  have e1 : (16 * a + b) / 16 = a := by omega
  have e2 : (16 * a + b) % 16 = b := by omega
  simp only [h, e1, e2, hc] at q
  rw [e]
  exact xm_iA _ _ q
def xm_fldF (y i a b : Nat) : Bool := match xm_cl[a]? with
  | some c => decide (b < c.2.2) && (decide (b < 16) && decide ((xm_lf (xm_yc y)).getD i 0 = 16 * a + b + 1))
  | none => false
def xm_lnkF (y : Nat) (o : xm_Op) : Bool := match o.2.1 with
  | .getfield i => xm_fldF y i o.2.2.2.1 o.2.2.2.2
  | .putfield i => xm_fldF y i o.2.2.2.1 o.2.2.2.2 && xm_fin y o.2.2.2.1 o.2.2.2.2
  | .invokestatic i => match o.2.2.2.2 with
    | 0 => decide (o.2.2.2.1 < xm_N - 1) && decide (xm_kd o.2.2.2.1 = 0) && decide ((xm_lm (xm_yc y)).getD i 0 = o.2.2.2.1 + 1)
    | _ => xm_lnk y o
  | .invokevirtual i => decide (o.2.2.2.1 < xm_N - 1) && decide (xm_kd o.2.2.2.1 = 1) && decide ((xm_lm (xm_yc y)).getD i 0 = o.2.2.2.1 + 1)
  | .invokespecial i => match o.2.2.2.2 with
    | 0 => decide (o.2.2.2.1 < xm_N - 1) && decide (xm_kd o.2.2.2.1 = 2) && decide ((xm_lm (xm_yc y)).getD i 0 = o.2.2.2.1 + 1)
    | _ => xm_lnk y o
  | _ => xm_lnk y o
theorem xm_fldF_t {y i a b : Nat} (hy : y < 155) (h : xm_fldF y i a b = true) : xm_fld y i a b = true := by
  unfold xm_fldF at h
  unfold xm_fld
  cases hc : xm_cl[a]? with
  | none =>
    rw [hc] at h
    exact h
  | some c =>
    rw [hc] at h
    have h : (decide (b < c.2.2) && (decide (b < 16) && decide ((xm_lf (xm_yc y)).getD i 0 = 16 * a + b + 1))) = true := h
    show (decide (b < c.2.2) && xm_in (.fieldLink (xm_nm y).cls i (c.2.1 b).1 (c.2.1 b).2.1 (c.2.1 b).2.2.1)) = true
    rw [Bool.and_eq_true] at h ⊢
    have h2 := h.2
    rw [Bool.and_eq_true, decide_eq_true_eq, decide_eq_true_eq] at h2
    exact ⟨h.1, xm_lf_t hy hc h2.1 h2.2⟩
theorem xm_lkF {p q : Bool} {y i a : Nat} (hy : y < 155) (h : (p && q && decide ((xm_lm (xm_yc y)).getD i 0 = a + 1)) = true) : (p && q && xm_in (.methodLink (xm_nm y).cls i (xm_nm a))) = true := by
  rw [Bool.and_eq_true] at h ⊢
  exact ⟨h.1, xm_lm_t hy (of_decide_eq_true h.2)⟩
theorem xm_lnkF_t {y : Nat} {o : xm_Op} (hy : y < 155) (h : xm_lnkF y o = true) : xm_lnk y o = true := by
  obtain ⟨pc, ins, len, a, b⟩ := o
  cases ins
  case getfield i => exact xm_fldF_t hy h
  case putfield i =>
    have h : (xm_fldF y i a b && xm_fin y a b) = true := h
    show (xm_fld y i a b && xm_fin y a b) = true
    rw [Bool.and_eq_true] at h ⊢
    exact ⟨xm_fldF_t hy h.1, h.2⟩
  case invokestatic i =>
    match b, h with
    | 0, h => exact xm_lkF (p := decide (a < xm_N - 1)) (q := decide (xm_kd a = 0)) hy h
    | b + 1, h => exact h
  case invokevirtual i => exact xm_lkF (p := decide (a < xm_N - 1)) (q := decide (xm_kd a = 1)) hy h
  case invokespecial i =>
    match b, h with
    | 0, h => exact xm_lkF (p := decide (a < xm_N - 1)) (q := decide (xm_kd a = 2)) hy h
    | b + 1, h => exact h
  all_goals exact h
def xm_ochkF (y : Nat) (o : xm_Op) : Bool := decide (decode (xm_by y) o.1 = .ok (o.2.1, o.2.2.1)) && (decide (xm_len o.2.1 = 0) || decide (xm_len o.2.1 = o.2.2.1)) && xm_lnkF y o
theorem xm_allF {y : Nat} {l : List xm_Op} (hy : Nat.ble (y + 1) 155 = true) (h : l.all (xm_ochkF y) = true) : l.all (xm_ochk y) = true := List.all_eq_true.mpr (fun o ho => by
  have q := List.all_eq_true.mp h o ho
  unfold xm_ochkF at q
  unfold xm_ochk
  rw [Bool.and_eq_true] at q ⊢
  exact ⟨q.1, xm_lnkF_t (Nat.le_of_ble_eq_true hy) q.2⟩)
