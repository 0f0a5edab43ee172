/-! every method's words stand in the tables -/
def xm_mchkG (A B C D : Cond → Bool) (y : Nat) : Bool := A (.code (xm_nm y) (xm_by y) (xm_mL y) (xm_rt y)) && B (.initialized (xm_nm y).cls) && decide (xm_np y ≤ 30) && decide ((xm_nm y).cls ≠ "java/lang/invoke/MethodHandle") && decide ((xm_nm y).cls ≠ "java/lang/invoke/VarHandle") && decide ((parseMethodDescriptor (xm_nm y).desc).map (fun d => d.parameters.length) = some (xm_np y)) && decide (xm_mL y ≤ 30) && match xm_kd y with
  | 0 => C (.static (xm_nm y))
  | 1 => C (.instanceMethod (xm_nm y)) && D (.selects (xm_nm y).cls (xm_nm y) (xm_nm y))
  | _ => C (.instanceMethod (xm_nm y)) && decide ((xm_nm y).name = "<init>") && decide (xm_rt y = none)
theorem xm_mG (i1 i2 i3 i4 : Nat) {y : Nat} (hc : lw_tbl[i1]? = some (.code (xm_nm y) (xm_by y) (xm_mL y) (xm_rt y))) (h : xm_mchkG goodWord (xm_iB i2) (xm_iB i3) (xm_iB i4) y = true) : xm_mchk y = true := by
  unfold xm_mchkG at h
  unfold xm_mchk
  rw [Bool.and_eq_true] at h ⊢
  obtain ⟨h, h8⟩ := h
  constructor
  · simp only [Bool.and_eq_true] at h ⊢
    obtain ⟨⟨⟨⟨⟨⟨h1, h2⟩, h3⟩, h4⟩, h5⟩, h6⟩, h7⟩ := h
    have hi : xm_in (.code (xm_nm y) (xm_by y) (xm_mL y) (xm_rt y)) = true := by
      unfold xm_in
      rw [Bool.and_eq_true, Bool.or_eq_true, decide_eq_true_eq]
      exact ⟨Or.inr (List.mem_of_getElem? hc), h1⟩
    exact ⟨⟨⟨⟨⟨⟨hi, xm_iA i2 _ h2⟩, h3⟩, h4⟩, h5⟩, h6⟩, h7⟩
  · generalize xm_kd y = k at h8 ⊢
    match k, h8 with
    | 0, h8 => exact xm_iA i3 _ h8
    | 1, h8 =>
      have h8 : (xm_iB i3 (.instanceMethod (xm_nm y)) && xm_iB i4 (.selects (xm_nm y).cls (xm_nm y) (xm_nm y))) = true := h8
      show (xm_in (.instanceMethod (xm_nm y)) && xm_in (.selects (xm_nm y).cls (xm_nm y) (xm_nm y))) = true
      rw [Bool.and_eq_true] at h8 ⊢
      exact ⟨xm_iA i3 _ h8.1, xm_iA i4 _ h8.2⟩
    | k + 2, h8 =>
      have h8 : (xm_iB i3 (.instanceMethod (xm_nm y)) && decide ((xm_nm y).name = "<init>") && decide (xm_rt y = none)) = true := h8
      show (xm_in (.instanceMethod (xm_nm y)) && decide ((xm_nm y).name = "<init>") && decide (xm_rt y = none)) = true
      simp only [Bool.and_eq_true] at h8 ⊢
      exact ⟨⟨xm_iA i3 _ h8.1.1, h8.1.2⟩, h8.2⟩
set_option maxRecDepth 100000 in
theorem xm_c0 : xm_mchk 0 = true := xm_mG 72 45 71 0 rfl (by decide +kernel)
set_option maxRecDepth 100000 in
theorem xm_c1 : xm_mchk 1 = true := xm_mG 77 45 75 76 rfl (by decide +kernel)
set_option maxRecDepth 100000 in
theorem xm_c2 : xm_mchk 2 = true := xm_mG 90 45 88 89 rfl (by decide +kernel)
set_option maxRecDepth 100000 in
theorem xm_c3 : xm_mchk 3 = true := xm_mG 233 45 231 232 rfl (by decide +kernel)
set_option maxRecDepth 100000 in
theorem xm_c4 : xm_mchk 4 = true := xm_mG 237 45 235 236 rfl (by decide +kernel)
set_option maxRecDepth 100000 in
theorem xm_c5 : xm_mchk 5 = true := xm_mG 254 45 252 253 rfl (by decide +kernel)
set_option maxRecDepth 100000 in
theorem xm_c6 : xm_mchk 6 = true := xm_mG 266 45 264 265 rfl (by decide +kernel)
set_option maxRecDepth 100000 in
theorem xm_c7 : xm_mchk 7 = true := xm_mG 297 45 295 296 rfl (by decide +kernel)
set_option maxRecDepth 100000 in
theorem xm_c8 : xm_mchk 8 = true := xm_mG 302 45 300 301 rfl (by decide +kernel)
set_option maxRecDepth 100000 in
theorem xm_c9 : xm_mchk 9 = true := xm_mG 306 45 304 305 rfl (by decide +kernel)
set_option maxRecDepth 100000 in
theorem xm_c10 : xm_mchk 10 = true := xm_mG 112 48 111 0 rfl (by decide +kernel)
set_option maxRecDepth 100000 in
theorem xm_c11 : xm_mchk 11 = true := xm_mG 262 48 260 261 rfl (by decide +kernel)
set_option maxRecDepth 100000 in
theorem xm_c12 : xm_mchk 12 = true := xm_mG 273 48 272 1 rfl (by decide +kernel)
set_option maxRecDepth 100000 in
theorem xm_c13 : xm_mchk 13 = true := xm_mG 279 48 278 2 rfl (by decide +kernel)
set_option maxRecDepth 100000 in
theorem xm_c14 : xm_mchk 14 = true := xm_mG 283 48 282 3 rfl (by decide +kernel)
set_option maxRecDepth 100000 in
theorem xm_c15 : xm_mchk 15 = true := xm_mG 146 49 145 0 rfl (by decide +kernel)
set_option maxRecDepth 100000 in
theorem xm_c16 : xm_mchk 16 = true := xm_mG 434 49 432 433 rfl (by decide +kernel)
set_option maxRecDepth 100000 in
theorem xm_c17 : xm_mchk 17 = true := xm_mG 440 49 439 7 rfl (by decide +kernel)
set_option maxRecDepth 100000 in
theorem xm_c18 : xm_mchk 18 = true := xm_mG 445 49 444 8 rfl (by decide +kernel)
set_option maxRecDepth 100000 in
theorem xm_c19 : xm_mchk 19 = true := xm_mG 450 49 449 9 rfl (by decide +kernel)
set_option maxRecDepth 100000 in
theorem xm_c20 : xm_mchk 20 = true := xm_mG 453 49 452 0 rfl (by decide +kernel)
set_option maxRecDepth 100000 in
theorem xm_c21 : xm_mchk 21 = true := xm_mG 457 49 456 10 rfl (by decide +kernel)
set_option maxRecDepth 100000 in
theorem xm_c22 : xm_mchk 22 = true := xm_mG 460 49 459 0 rfl (by decide +kernel)
set_option maxRecDepth 100000 in
theorem xm_c23 : xm_mchk 23 = true := xm_mG 464 49 463 11 rfl (by decide +kernel)
set_option maxRecDepth 100000 in
theorem xm_c24 : xm_mchk 24 = true := xm_mG 468 49 467 12 rfl (by decide +kernel)
set_option maxRecDepth 100000 in
theorem xm_c25 : xm_mchk 25 = true := xm_mG 472 49 471 13 rfl (by decide +kernel)
set_option maxRecDepth 100000 in
theorem xm_c26 : xm_mchk 26 = true := xm_mG 174 50 173 0 rfl (by decide +kernel)
set_option maxRecDepth 100000 in
theorem xm_c27 : xm_mchk 27 = true := xm_mG 482 50 480 481 rfl (by decide +kernel)
set_option maxRecDepth 100000 in
theorem xm_c28 : xm_mchk 28 = true := xm_mG 485 50 484 0 rfl (by decide +kernel)
set_option maxRecDepth 100000 in
theorem xm_c29 : xm_mchk 29 = true := xm_mG 490 50 489 0 rfl (by decide +kernel)
set_option maxRecDepth 100000 in
theorem xm_c30 : xm_mchk 30 = true := xm_mG 495 50 493 494 rfl (by decide +kernel)
set_option maxRecDepth 100000 in
theorem xm_c31 : xm_mchk 31 = true := xm_mG 499 50 498 14 rfl (by decide +kernel)
set_option maxRecDepth 100000 in
theorem xm_c32 : xm_mchk 32 = true := xm_mG 503 50 502 15 rfl (by decide +kernel)
set_option maxRecDepth 100000 in
theorem xm_c33 : xm_mchk 33 = true := xm_mG 513 50 511 512 rfl (by decide +kernel)
set_option maxRecDepth 100000 in
theorem xm_c34 : xm_mchk 34 = true := xm_mG 519 50 518 16 rfl (by decide +kernel)
set_option maxRecDepth 100000 in
theorem xm_c35 : xm_mchk 35 = true := xm_mG 523 50 522 17 rfl (by decide +kernel)
set_option maxRecDepth 100000 in
theorem xm_c36 : xm_mchk 36 = true := xm_mG 527 50 526 18 rfl (by decide +kernel)
set_option maxRecDepth 100000 in
theorem xm_c37 : xm_mchk 37 = true := xm_mG 531 50 530 19 rfl (by decide +kernel)
set_option maxRecDepth 100000 in
theorem xm_c38 : xm_mchk 38 = true := xm_mG 63 44 62 0 rfl (by decide +kernel)
set_option maxRecDepth 100000 in
theorem xm_c39 : xm_mchk 39 = true := xm_mG 214 44 212 213 rfl (by decide +kernel)
set_option maxRecDepth 100000 in
theorem xm_c40 : xm_mchk 40 = true := xm_mG 217 44 216 0 rfl (by decide +kernel)
set_option maxRecDepth 100000 in
theorem xm_c41 : xm_mchk 41 = true := xm_mG 220 44 219 0 rfl (by decide +kernel)
set_option maxRecDepth 100000 in
theorem xm_c42 : xm_mchk 42 = true := xm_mG 225 44 223 224 rfl (by decide +kernel)
set_option maxRecDepth 100000 in
theorem xm_c43 : xm_mchk 43 = true := xm_mG 229 44 228 0 rfl (by decide +kernel)
set_option maxRecDepth 100000 in
theorem xm_c44 : xm_mchk 44 = true := xm_mG 242 44 241 0 rfl (by decide +kernel)
set_option maxRecDepth 100000 in
theorem xm_c45 : xm_mchk 45 = true := xm_mG 246 44 244 245 rfl (by decide +kernel)
set_option maxRecDepth 100000 in
theorem xm_c46 : xm_mchk 46 = true := xm_mG 250 44 248 249 rfl (by decide +kernel)
set_option maxRecDepth 100000 in
theorem xm_c47 : xm_mchk 47 = true := xm_mG 258 44 256 257 rfl (by decide +kernel)
set_option maxRecDepth 100000 in
theorem xm_c48 : xm_mchk 48 = true := xm_mG 288 44 286 287 rfl (by decide +kernel)
set_option maxRecDepth 100000 in
theorem xm_c49 : xm_mchk 49 = true := xm_mG 293 44 291 292 rfl (by decide +kernel)
set_option maxRecDepth 100000 in
theorem xm_c50 : xm_mchk 50 = true := xm_mG 310 44 308 309 rfl (by decide +kernel)
set_option maxRecDepth 100000 in
theorem xm_c51 : xm_mchk 51 = true := xm_mG 338 44 336 337 rfl (by decide +kernel)
set_option maxRecDepth 100000 in
theorem xm_c52 : xm_mchk 52 = true := xm_mG 358 44 356 357 rfl (by decide +kernel)
set_option maxRecDepth 100000 in
theorem xm_c53 : xm_mchk 53 = true := xm_mG 362 44 361 4 rfl (by decide +kernel)
set_option maxRecDepth 100000 in
theorem xm_c54 : xm_mchk 54 = true := xm_mG 379 44 377 378 rfl (by decide +kernel)
set_option maxRecDepth 100000 in
theorem xm_c55 : xm_mchk 55 = true := xm_mG 395 44 393 394 rfl (by decide +kernel)
set_option maxRecDepth 100000 in
theorem xm_c56 : xm_mchk 56 = true := xm_mG 399 44 398 5 rfl (by decide +kernel)
set_option maxRecDepth 100000 in
theorem xm_c57 : xm_mchk 57 = true := xm_mG 405 44 403 404 rfl (by decide +kernel)
set_option maxRecDepth 100000 in
theorem xm_c58 : xm_mchk 58 = true := xm_mG 426 44 425 6 rfl (by decide +kernel)
set_option maxRecDepth 100000 in
theorem xm_c59 : xm_mchk 59 = true := xm_mG 430 44 428 429 rfl (by decide +kernel)
set_option maxRecDepth 100000 in
theorem xm_c60 : xm_mchk 60 = true := xm_mG 477 44 475 476 rfl (by decide +kernel)
set_option maxRecDepth 100000 in
theorem xm_c61 : xm_mchk 61 = true := xm_mG 509 44 507 508 rfl (by decide +kernel)
set_option maxRecDepth 100000 in
theorem xm_c62 : xm_mchk 62 = true := xm_mG 535 44 533 534 rfl (by decide +kernel)
set_option maxRecDepth 100000 in
theorem xm_c63 : xm_mchk 63 = true := xm_mG 555 44 553 554 rfl (by decide +kernel)
set_option maxRecDepth 100000 in
theorem xm_c64 : xm_mchk 64 = true := xm_mG 563 44 561 562 rfl (by decide +kernel)
set_option maxRecDepth 100000 in
theorem xm_c65 : xm_mchk 65 = true := xm_mG 576 44 574 575 rfl (by decide +kernel)
set_option maxRecDepth 100000 in
theorem xm_c66 : xm_mchk 66 = true := xm_mG 583 44 581 582 rfl (by decide +kernel)
set_option maxRecDepth 100000 in
theorem xm_c67 : xm_mchk 67 = true := xm_mG 588 51 587 0 rfl (by decide +kernel)
set_option maxRecDepth 100000 in
theorem xm_c68 : xm_mchk 68 = true := xm_mG 617 51 615 616 rfl (by decide +kernel)
set_option maxRecDepth 100000 in
theorem xm_c69 : xm_mchk 69 = true := xm_mG 620 51 619 0 rfl (by decide +kernel)
set_option maxRecDepth 100000 in
theorem xm_c70 : xm_mchk 70 = true := xm_mG 623 51 622 0 rfl (by decide +kernel)
set_option maxRecDepth 100000 in
theorem xm_c71 : xm_mchk 71 = true := xm_mG 627 51 626 20 rfl (by decide +kernel)
set_option maxRecDepth 100000 in
theorem xm_c72 : xm_mchk 72 = true := xm_mG 631 51 629 630 rfl (by decide +kernel)
set_option maxRecDepth 100000 in
theorem xm_c73 : xm_mchk 73 = true := xm_mG 635 51 634 21 rfl (by decide +kernel)
set_option maxRecDepth 100000 in
theorem xm_c74 : xm_mchk 74 = true := xm_mG 639 51 638 22 rfl (by decide +kernel)
set_option maxRecDepth 100000 in
theorem xm_c75 : xm_mchk 75 = true := xm_mG 643 51 641 642 rfl (by decide +kernel)
set_option maxRecDepth 100000 in
theorem xm_c76 : xm_mchk 76 = true := xm_mG 647 51 646 23 rfl (by decide +kernel)
set_option maxRecDepth 100000 in
theorem xm_c77 : xm_mchk 77 = true := xm_mG 651 51 649 650 rfl (by decide +kernel)
set_option maxRecDepth 100000 in
theorem xm_c78 : xm_mchk 78 = true := xm_mG 655 51 654 24 rfl (by decide +kernel)
set_option maxRecDepth 100000 in
theorem xm_c79 : xm_mchk 79 = true := xm_mG 659 51 657 658 rfl (by decide +kernel)
set_option maxRecDepth 100000 in
theorem xm_c80 : xm_mchk 80 = true := xm_mG 663 51 662 25 rfl (by decide +kernel)
set_option maxRecDepth 100000 in
theorem xm_c81 : xm_mchk 81 = true := xm_mG 667 51 666 26 rfl (by decide +kernel)
set_option maxRecDepth 100000 in
theorem xm_c82 : xm_mchk 82 = true := xm_mG 671 51 669 670 rfl (by decide +kernel)
set_option maxRecDepth 100000 in
theorem xm_c83 : xm_mchk 83 = true := xm_mG 675 51 673 674 rfl (by decide +kernel)
set_option maxRecDepth 100000 in
theorem xm_c84 : xm_mchk 84 = true := xm_mG 679 51 678 27 rfl (by decide +kernel)
set_option maxRecDepth 100000 in
theorem xm_c85 : xm_mchk 85 = true := xm_mG 683 51 682 28 rfl (by decide +kernel)
set_option maxRecDepth 100000 in
theorem xm_c86 : xm_mchk 86 = true := xm_mG 687 51 686 29 rfl (by decide +kernel)
set_option maxRecDepth 100000 in
theorem xm_c87 : xm_mchk 87 = true := xm_mG 691 51 689 690 rfl (by decide +kernel)
set_option maxRecDepth 100000 in
theorem xm_c88 : xm_mchk 88 = true := xm_mG 694 51 693 0 rfl (by decide +kernel)
set_option maxRecDepth 100000 in
theorem xm_c89 : xm_mchk 89 = true := xm_mG 698 51 697 30 rfl (by decide +kernel)
set_option maxRecDepth 100000 in
theorem xm_c90 : xm_mchk 90 = true := xm_mG 702 51 700 701 rfl (by decide +kernel)
set_option maxRecDepth 100000 in
theorem xm_c91 : xm_mchk 91 = true := xm_mG 706 51 705 31 rfl (by decide +kernel)
set_option maxRecDepth 100000 in
theorem xm_c92 : xm_mchk 92 = true := xm_mG 710 51 708 709 rfl (by decide +kernel)
set_option maxRecDepth 100000 in
theorem xm_c93 : xm_mchk 93 = true := xm_mG 714 51 713 32 rfl (by decide +kernel)
set_option maxRecDepth 100000 in
theorem xm_c94 : xm_mchk 94 = true := xm_mG 718 51 717 33 rfl (by decide +kernel)
set_option maxRecDepth 100000 in
theorem xm_c95 : xm_mchk 95 = true := xm_mG 721 51 720 0 rfl (by decide +kernel)
set_option maxRecDepth 100000 in
theorem xm_c96 : xm_mchk 96 = true := xm_mG 725 51 723 724 rfl (by decide +kernel)
set_option maxRecDepth 100000 in
theorem xm_c97 : xm_mchk 97 = true := xm_mG 729 51 728 34 rfl (by decide +kernel)
set_option maxRecDepth 100000 in
theorem xm_c98 : xm_mchk 98 = true := xm_mG 733 51 732 35 rfl (by decide +kernel)
set_option maxRecDepth 100000 in
theorem xm_c99 : xm_mchk 99 = true := xm_mG 737 51 735 736 rfl (by decide +kernel)
set_option maxRecDepth 100000 in
theorem xm_c100 : xm_mchk 100 = true := xm_mG 741 51 739 740 rfl (by decide +kernel)
set_option maxRecDepth 100000 in
theorem xm_c101 : xm_mchk 101 = true := xm_mG 745 51 744 36 rfl (by decide +kernel)
set_option maxRecDepth 100000 in
theorem xm_c102 : xm_mchk 102 = true := xm_mG 748 51 747 0 rfl (by decide +kernel)
set_option maxRecDepth 100000 in
theorem xm_c103 : xm_mchk 103 = true := xm_mG 752 51 750 751 rfl (by decide +kernel)
set_option maxRecDepth 100000 in
theorem xm_c104 : xm_mchk 104 = true := xm_mG 756 51 755 37 rfl (by decide +kernel)
set_option maxRecDepth 100000 in
theorem xm_c105 : xm_mchk 105 = true := xm_mG 760 51 759 38 rfl (by decide +kernel)
set_option maxRecDepth 100000 in
theorem xm_c106 : xm_mchk 106 = true := xm_mG 764 51 762 763 rfl (by decide +kernel)
set_option maxRecDepth 100000 in
theorem xm_c107 : xm_mchk 107 = true := xm_mG 768 51 767 39 rfl (by decide +kernel)
set_option maxRecDepth 100000 in
theorem xm_c108 : xm_mchk 108 = true := xm_mG 771 51 770 0 rfl (by decide +kernel)
set_option maxRecDepth 100000 in
theorem xm_c109 : xm_mchk 109 = true := xm_mG 775 51 774 40 rfl (by decide +kernel)
set_option maxRecDepth 100000 in
theorem xm_c110 : xm_mchk 110 = true := xm_mG 779 51 778 41 rfl (by decide +kernel)
set_option maxRecDepth 100000 in
theorem xm_c111 : xm_mchk 111 = true := xm_mG 783 51 781 782 rfl (by decide +kernel)
set_option maxRecDepth 100000 in
theorem xm_c112 : xm_mchk 112 = true := xm_mG 787 51 785 786 rfl (by decide +kernel)
set_option maxRecDepth 100000 in
theorem xm_c113 : xm_mchk 113 = true := xm_mG 791 51 790 42 rfl (by decide +kernel)
set_option maxRecDepth 100000 in
theorem xm_c114 : xm_mchk 114 = true := xm_mG 795 51 793 794 rfl (by decide +kernel)
set_option maxRecDepth 100000 in
theorem xm_c115 : xm_mchk 115 = true := xm_mG 799 51 797 798 rfl (by decide +kernel)
set_option maxRecDepth 100000 in
theorem xm_c116 : xm_mchk 116 = true := xm_mG 803 51 801 802 rfl (by decide +kernel)
set_option maxRecDepth 100000 in
theorem xm_c117 : xm_mchk 117 = true := xm_mG 807 51 805 806 rfl (by decide +kernel)
set_option maxRecDepth 100000 in
theorem xm_c118 : xm_mchk 118 = true := xm_mG 341 54 340 0 rfl (by decide +kernel)
set_option maxRecDepth 100000 in
theorem xm_c119 : xm_mchk 119 = true := xm_mG 344 54 343 0 rfl (by decide +kernel)
set_option maxRecDepth 100000 in
theorem xm_c120 : xm_mchk 120 = true := xm_mG 347 54 346 0 rfl (by decide +kernel)
set_option maxRecDepth 100000 in
theorem xm_c121 : xm_mchk 121 = true := xm_mG 350 54 349 0 rfl (by decide +kernel)
set_option maxRecDepth 100000 in
theorem xm_c122 : xm_mchk 122 = true := xm_mG 353 54 352 0 rfl (by decide +kernel)
set_option maxRecDepth 100000 in
theorem xm_c123 : xm_mchk 123 = true := xm_mG 566 58 565 0 rfl (by decide +kernel)
set_option maxRecDepth 100000 in
theorem xm_c124 : xm_mchk 124 = true := xm_mG 570 58 569 0 rfl (by decide +kernel)
set_option maxRecDepth 100000 in
theorem xm_c125 : xm_mchk 125 = true := xm_mG 579 58 578 0 rfl (by decide +kernel)
set_option maxRecDepth 100000 in
theorem xm_c126 : xm_mchk 126 = true := xm_mG 313 53 312 0 rfl (by decide +kernel)
set_option maxRecDepth 100000 in
theorem xm_c127 : xm_mchk 127 = true := xm_mG 316 53 315 0 rfl (by decide +kernel)
set_option maxRecDepth 100000 in
theorem xm_c128 : xm_mchk 128 = true := xm_mG 319 53 318 0 rfl (by decide +kernel)
set_option maxRecDepth 100000 in
theorem xm_c129 : xm_mchk 129 = true := xm_mG 322 53 321 0 rfl (by decide +kernel)
set_option maxRecDepth 100000 in
theorem xm_c130 : xm_mchk 130 = true := xm_mG 325 53 324 0 rfl (by decide +kernel)
set_option maxRecDepth 100000 in
theorem xm_c131 : xm_mchk 131 = true := xm_mG 331 53 330 0 rfl (by decide +kernel)
set_option maxRecDepth 100000 in
theorem xm_c132 : xm_mchk 132 = true := xm_mG 334 53 333 0 rfl (by decide +kernel)
set_option maxRecDepth 100000 in
theorem xm_c133 : xm_mchk 133 = true := xm_mG 365 55 364 0 rfl (by decide +kernel)
set_option maxRecDepth 100000 in
theorem xm_c134 : xm_mchk 134 = true := xm_mG 368 55 367 0 rfl (by decide +kernel)
set_option maxRecDepth 100000 in
theorem xm_c135 : xm_mchk 135 = true := xm_mG 371 55 370 0 rfl (by decide +kernel)
set_option maxRecDepth 100000 in
theorem xm_c136 : xm_mchk 136 = true := xm_mG 374 55 373 0 rfl (by decide +kernel)
set_option maxRecDepth 100000 in
theorem xm_c137 : xm_mchk 137 = true := xm_mG 382 55 381 0 rfl (by decide +kernel)
set_option maxRecDepth 100000 in
theorem xm_c138 : xm_mchk 138 = true := xm_mG 385 55 384 0 rfl (by decide +kernel)
set_option maxRecDepth 100000 in
theorem xm_c139 : xm_mchk 139 = true := xm_mG 388 55 387 0 rfl (by decide +kernel)
set_option maxRecDepth 100000 in
theorem xm_c140 : xm_mchk 140 = true := xm_mG 391 55 390 0 rfl (by decide +kernel)
set_option maxRecDepth 100000 in
theorem xm_c141 : xm_mchk 141 = true := xm_mG 408 55 407 0 rfl (by decide +kernel)
set_option maxRecDepth 100000 in
theorem xm_c142 : xm_mchk 142 = true := xm_mG 411 55 410 0 rfl (by decide +kernel)
set_option maxRecDepth 100000 in
theorem xm_c143 : xm_mchk 143 = true := xm_mG 421 55 420 0 rfl (by decide +kernel)
set_option maxRecDepth 100000 in
theorem xm_c144 : xm_mchk 144 = true := xm_mG 538 57 537 0 rfl (by decide +kernel)
set_option maxRecDepth 100000 in
theorem xm_c145 : xm_mchk 145 = true := xm_mG 541 57 540 0 rfl (by decide +kernel)
set_option maxRecDepth 100000 in
theorem xm_c146 : xm_mchk 146 = true := xm_mG 544 57 543 0 rfl (by decide +kernel)
set_option maxRecDepth 100000 in
theorem xm_c147 : xm_mchk 147 = true := xm_mG 548 57 547 0 rfl (by decide +kernel)
set_option maxRecDepth 100000 in
theorem xm_c148 : xm_mchk 148 = true := xm_mG 551 57 550 0 rfl (by decide +kernel)
set_option maxRecDepth 100000 in
theorem xm_c149 : xm_mchk 149 = true := xm_mG 558 57 557 0 rfl (by decide +kernel)
set_option maxRecDepth 100000 in
theorem xm_c150 : xm_mchk 150 = true := xm_mG 414 56 413 0 rfl (by decide +kernel)
set_option maxRecDepth 100000 in
theorem xm_c151 : xm_mchk 151 = true := xm_mG 80 46 79 0 rfl (by decide +kernel)
set_option maxRecDepth 100000 in
theorem xm_c152 : xm_mchk 152 = true := xm_mG 83 46 82 0 rfl (by decide +kernel)
set_option maxRecDepth 100000 in
theorem xm_c153 : xm_mchk 153 = true := xm_mG 86 47 85 0 rfl (by decide +kernel)
theorem xm_mall : ∀ y, y < xm_N - 1 → xm_mchk y = true := by
  intro y hy
  match y, hy with
  | 0, _ => exact xm_c0
  | 1, _ => exact xm_c1
  | 2, _ => exact xm_c2
  | 3, _ => exact xm_c3
  | 4, _ => exact xm_c4
  | 5, _ => exact xm_c5
  | 6, _ => exact xm_c6
  | 7, _ => exact xm_c7
  | 8, _ => exact xm_c8
  | 9, _ => exact xm_c9
  | 10, _ => exact xm_c10
  | 11, _ => exact xm_c11
  | 12, _ => exact xm_c12
  | 13, _ => exact xm_c13
  | 14, _ => exact xm_c14
  | 15, _ => exact xm_c15
  | 16, _ => exact xm_c16
  | 17, _ => exact xm_c17
  | 18, _ => exact xm_c18
  | 19, _ => exact xm_c19
  | 20, _ => exact xm_c20
  | 21, _ => exact xm_c21
  | 22, _ => exact xm_c22
  | 23, _ => exact xm_c23
  | 24, _ => exact xm_c24
  | 25, _ => exact xm_c25
  | 26, _ => exact xm_c26
  | 27, _ => exact xm_c27
  | 28, _ => exact xm_c28
  | 29, _ => exact xm_c29
  | 30, _ => exact xm_c30
  | 31, _ => exact xm_c31
  | 32, _ => exact xm_c32
  | 33, _ => exact xm_c33
  | 34, _ => exact xm_c34
  | 35, _ => exact xm_c35
  | 36, _ => exact xm_c36
  | 37, _ => exact xm_c37
  | 38, _ => exact xm_c38
  | 39, _ => exact xm_c39
  | 40, _ => exact xm_c40
  | 41, _ => exact xm_c41
  | 42, _ => exact xm_c42
  | 43, _ => exact xm_c43
  | 44, _ => exact xm_c44
  | 45, _ => exact xm_c45
  | 46, _ => exact xm_c46
  | 47, _ => exact xm_c47
  | 48, _ => exact xm_c48
  | 49, _ => exact xm_c49
  | 50, _ => exact xm_c50
  | 51, _ => exact xm_c51
  | 52, _ => exact xm_c52
  | 53, _ => exact xm_c53
  | 54, _ => exact xm_c54
  | 55, _ => exact xm_c55
  | 56, _ => exact xm_c56
  | 57, _ => exact xm_c57
  | 58, _ => exact xm_c58
  | 59, _ => exact xm_c59
  | 60, _ => exact xm_c60
  | 61, _ => exact xm_c61
  | 62, _ => exact xm_c62
  | 63, _ => exact xm_c63
  | 64, _ => exact xm_c64
  | 65, _ => exact xm_c65
  | 66, _ => exact xm_c66
  | 67, _ => exact xm_c67
  | 68, _ => exact xm_c68
  | 69, _ => exact xm_c69
  | 70, _ => exact xm_c70
  | 71, _ => exact xm_c71
  | 72, _ => exact xm_c72
  | 73, _ => exact xm_c73
  | 74, _ => exact xm_c74
  | 75, _ => exact xm_c75
  | 76, _ => exact xm_c76
  | 77, _ => exact xm_c77
  | 78, _ => exact xm_c78
  | 79, _ => exact xm_c79
  | 80, _ => exact xm_c80
  | 81, _ => exact xm_c81
  | 82, _ => exact xm_c82
  | 83, _ => exact xm_c83
  | 84, _ => exact xm_c84
  | 85, _ => exact xm_c85
  | 86, _ => exact xm_c86
  | 87, _ => exact xm_c87
  | 88, _ => exact xm_c88
  | 89, _ => exact xm_c89
  | 90, _ => exact xm_c90
  | 91, _ => exact xm_c91
  | 92, _ => exact xm_c92
  | 93, _ => exact xm_c93
  | 94, _ => exact xm_c94
  | 95, _ => exact xm_c95
  | 96, _ => exact xm_c96
  | 97, _ => exact xm_c97
  | 98, _ => exact xm_c98
  | 99, _ => exact xm_c99
  | 100, _ => exact xm_c100
  | 101, _ => exact xm_c101
  | 102, _ => exact xm_c102
  | 103, _ => exact xm_c103
  | 104, _ => exact xm_c104
  | 105, _ => exact xm_c105
  | 106, _ => exact xm_c106
  | 107, _ => exact xm_c107
  | 108, _ => exact xm_c108
  | 109, _ => exact xm_c109
  | 110, _ => exact xm_c110
  | 111, _ => exact xm_c111
  | 112, _ => exact xm_c112
  | 113, _ => exact xm_c113
  | 114, _ => exact xm_c114
  | 115, _ => exact xm_c115
  | 116, _ => exact xm_c116
  | 117, _ => exact xm_c117
  | 118, _ => exact xm_c118
  | 119, _ => exact xm_c119
  | 120, _ => exact xm_c120
  | 121, _ => exact xm_c121
  | 122, _ => exact xm_c122
  | 123, _ => exact xm_c123
  | 124, _ => exact xm_c124
  | 125, _ => exact xm_c125
  | 126, _ => exact xm_c126
  | 127, _ => exact xm_c127
  | 128, _ => exact xm_c128
  | 129, _ => exact xm_c129
  | 130, _ => exact xm_c130
  | 131, _ => exact xm_c131
  | 132, _ => exact xm_c132
  | 133, _ => exact xm_c133
  | 134, _ => exact xm_c134
  | 135, _ => exact xm_c135
  | 136, _ => exact xm_c136
  | 137, _ => exact xm_c137
  | 138, _ => exact xm_c138
  | 139, _ => exact xm_c139
  | 140, _ => exact xm_c140
  | 141, _ => exact xm_c141
  | 142, _ => exact xm_c142
  | 143, _ => exact xm_c143
  | 144, _ => exact xm_c144
  | 145, _ => exact xm_c145
  | 146, _ => exact xm_c146
  | 147, _ => exact xm_c147
  | 148, _ => exact xm_c148
  | 149, _ => exact xm_c149
  | 150, _ => exact xm_c150
  | 151, _ => exact xm_c151
  | 152, _ => exact xm_c152
  | 153, _ => exact xm_c153
  | n + 154, h => exact absurd h (by simp only [xm_N]; omega)
