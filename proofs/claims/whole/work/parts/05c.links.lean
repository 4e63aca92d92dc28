def ai_ml : List (Nat × Nat × Nat × Nat) := [(0, 15, 70, 88), (0, 55, 180, 181), (0, 65, 71, 182), (0, 69, 82, 235), (0, 73, 78, 243), (0, 76, 80, 251), (0, 80, 83, 259), (0, 83, 85, 263), (0, 87, 87, 267), (0, 91, 81, 275), (0, 94, 74, 279), (0, 97, 84, 291), (0, 103, 91, 297), (0, 106, 75, 302), (0, 116, 73, 312), (0, 120, 76, 319), (0, 123, 10, 335), (0, 126, 86, 343), (0, 130, 55, 354), (0, 134, 46, 424), (0, 144, 96, 432), (0, 147, 95, 484), (0, 150, 97, 488), (0, 154, 94, 506), (0, 157, 38, 514), (0, 160, 29, 518), (0, 163, 103, 523), (0, 169, 99, 561), (0, 173, 66, 588), (0, 176, 64, 628), (0, 177, 62, 636), (0, 181, 60, 637), (0, 185, 63, 642), (0, 190, 107, 652), (0, 193, 110, 663), (0, 197, 61, 734), (1, 19, 49, 459), (1, 23, 31, 453), (1, 26, 40, 411), (1, 29, 44, 475), (1, 32, 34, 476), (1, 35, 43, 454), (1, 38, 23, 368), (1, 48, 29, 463), (1, 52, 47, 719), (1, 56, 37, 724), (1, 60, 33, 723), (1, 63, 35, 728), (1, 66, 41, 729), (2, 21, 30, 358), (2, 26, 80, 362), (2, 32, 79, 363), (2, 36, 24, 364), (2, 40, 83, 372), (2, 43, 58, 373), (2, 47, 54, 379), (2, 50, 53, 391), (2, 54, 52, 415), (2, 58, 91, 418), (2, 62, 75, 419), (2, 65, 27, 420), (2, 69, 85, 377), (2, 79, 84, 378), (2, 82, 180, 383), (2, 88, 57, 384), (2, 96, 56, 395), (2, 100, 51, 399), (2, 104, 28, 403), (2, 108, 26, 407), (3, 19, 62, 596), (3, 23, 60, 592), (3, 27, 46, 600), (3, 33, 31, 601), (3, 37, 43, 602), (3, 40, 44, 603), (3, 43, 67, 604), (3, 47, 68, 617), (3, 50, 65, 624), (3, 53, 48, 608), (3, 56, 32, 609), (3, 59, 69, 610), (3, 62, 34, 621), (3, 65, 40, 622), (3, 68, 39, 623), (4, 24, 180, 92), (4, 30, 79, 239), (4, 34, 81, 295), (4, 38, 82, 301), (4, 41, 77, 186), (4, 45, 181, 190), (4, 54, 90, 347), (4, 58, 88, 323), (4, 62, 89, 327), (5, 29, 46, 436), (5, 33, 93, 437), (5, 37, 43, 445), (5, 41, 31, 441), (5, 44, 44, 467), (5, 47, 98, 480), (5, 51, 41, 449), (5, 55, 42, 455), (5, 59, 35, 471), (5, 62, 30, 492), (5, 65, 45, 493), (5, 68, 25, 497), (6, 9, 46, 526), (6, 15, 106, 527), (6, 21, 85, 554), (6, 27, 105, 555), (6, 31, 43, 530), (6, 34, 31, 531), (6, 37, 80, 532), (6, 41, 44, 533), (6, 44, 104, 534), (6, 48, 101, 542), (6, 52, 35, 553), (6, 55, 48, 545), (6, 58, 32, 549), (6, 61, 79, 537), (6, 64, 33, 538), (6, 67, 41, 558), (6, 71, 40, 559), (6, 74, 34, 560), (6, 77, 73, 564), (6, 81, 71, 565), (6, 85, 78, 566), (6, 89, 83, 567), (6, 92, 100, 568), (6, 96, 76, 583), (6, 99, 102, 571), (6, 103, 39, 579), (6, 107, 72, 575), (6, 110, 84, 574), (7, 15, 30, 667), (7, 20, 109, 668), (7, 26, 108, 676), (7, 30, 112, 682), (7, 34, 36, 715), (7, 41, 61, 672), (7, 44, 65, 680), (7, 47, 64, 681), (7, 50, 111, 686), (7, 53, 114, 691), (7, 56, 115, 709), (7, 59, 24, 690), (7, 63, 116, 695), (7, 67, 113, 704), (7, 72, 27, 708), (7, 76, 28, 713), (7, 80, 26, 714), (7, 86, 117, 701), (8, 9, 0, 80), (8, 12, 118, 737), (8, 13, 14, 227), (8, 17, 155, 821), (8, 18, 16, 231), (8, 22, 159, 825), (8, 23, 12, 247), (8, 26, 150, 840), (8, 27, 9, 255), (8, 30, 143, 845), (8, 31, 17, 271), (8, 35, 164, 849), (8, 36, 11, 283), (8, 40, 149, 853), (8, 41, 21, 287), (8, 45, 176, 857), (8, 46, 20, 308), (8, 50, 170, 862), (8, 51, 18, 331), (8, 55, 165, 874), (8, 56, 19, 339), (8, 59, 166, 882), (8, 60, 6, 350), (8, 64, 132, 890), (8, 65, 13, 428), (8, 69, 152, 937), (8, 70, 3, 502), (8, 73, 127, 966), (8, 74, 15, 510), (8, 77, 156, 970), (8, 78, 1, 519), (8, 81, 122, 974), (8, 82, 7, 584), (8, 85, 135, 1007), (8, 86, 8, 632), (8, 89, 137, 1026), (8, 90, 4, 638), (8, 93, 130, 1030), (8, 94, 5, 646), (8, 97, 131, 1038), (8, 98, 2, 730), (8, 101, 124, 1034), (9, 67, 126, 741), (9, 73, 144, 837), (9, 77, 151, 833), (9, 80, 169, 829), (9, 91, 128, 866), (9, 95, 158, 870), (9, 98, 145, 878), (9, 101, 121, 886), (9, 105, 146, 914), (9, 109, 174, 918), (9, 112, 168, 922), (9, 116, 119, 902), (9, 120, 120, 929), (9, 123, 148, 910), (9, 127, 171, 925), (9, 131, 134, 898), (9, 134, 173, 906), (9, 138, 167, 933), (9, 141, 133, 894), (9, 145, 136, 949), (9, 151, 125, 945), (9, 154, 160, 957), (9, 158, 175, 962), (9, 161, 138, 941), (9, 164, 147, 953), (9, 167, 129, 990), (9, 170, 123, 986), (9, 173, 157, 982), (9, 176, 142, 994), (9, 182, 172, 1003), (9, 185, 139, 978), (9, 188, 163, 999), (9, 200, 177, 1015), (9, 203, 179, 1019), (9, 207, 178, 1011), (9, 220, 153, 1046), (9, 226, 154, 1054), (9, 229, 162, 1050), (9, 232, 161, 1042), (9, 235, 140, 1059), (9, 238, 141, 1063), (10, 13, 182, 193)]
def ai_nll : List (Nat × Nat × Nat) := [(0, 26, 22), (0, 36, 50), (0, 43, 92), (0, 50, 59), (5, 11, 22)]
def ai_fl : List (Nat × Nat × Nat × Nat × Nat) := [(0, 9, 0, 0, 196), (0, 16, 0, 2, 198), (0, 20, 0, 3, 199), (0, 27, 0, 5, 201), (0, 31, 0, 6, 202), (0, 37, 0, 7, 203), (0, 44, 0, 8, 204), (0, 51, 0, 9, 205), (0, 61, 0, 1, 197), (0, 113, 0, 4, 200), (0, 138, 5, 0, 154), (0, 141, 5, 1, 156), (1, 11, 1, 0, 116), (1, 15, 1, 1, 117), (2, 9, 2, 0, 129), (2, 15, 2, 1, 130), (2, 18, 2, 4, 133), (2, 72, 2, 2, 131), (2, 76, 2, 3, 132), (3, 11, 3, 0, 174), (3, 15, 3, 1, 175), (4, 9, 4, 0, 95), (4, 15, 4, 1, 96), (4, 18, 4, 2, 97), (4, 21, 4, 3, 98), (5, 12, 5, 0, 153), (5, 18, 5, 1, 155), (5, 21, 5, 2, 157), (5, 25, 5, 3, 158), (7, 9, 6, 0, 656), (7, 37, 6, 1, 657), (9, 7, 7, 0, 746), (9, 13, 7, 1, 747), (9, 17, 7, 3, 749), (9, 20, 7, 4, 750), (9, 24, 7, 5, 751), (9, 28, 7, 6, 752), (9, 31, 7, 7, 753), (9, 34, 7, 8, 754), (9, 37, 7, 9, 755), (9, 40, 7, 10, 756), (9, 43, 7, 11, 757), (9, 46, 7, 12, 758), (9, 49, 7, 13, 759), (9, 52, 7, 14, 760), (9, 55, 7, 15, 761), (9, 58, 7, 17, 763), (9, 61, 7, 19, 765), (9, 64, 7, 21, 767), (9, 88, 7, 2, 748), (9, 148, 7, 16, 762), (9, 191, 7, 20, 766), (9, 210, 7, 18, 764), (9, 213, 7, 22, 768), (9, 216, 7, 23, 769)]
def ai_oi : List (Nat × Nat × Nat) := [(0, 1, 83), (1, 5, 115), (2, 3, 128), (3, 3, 173), (4, 3, 91), (5, 3, 150), (7, 3, 655), (9, 1, 740)]
def ai_mm : List (Nat × Nat × Nat) := [(2, 91, 388)]
def ai_cp : List (Nat × Nat × Nat) := [(1, 42, 501), (4, 48, 316)]
def ai_nq : List (Nat × Nat × Nat × Nat) := [(0, 13, 4, 86), (0, 24, 1, 110), (0, 34, 2, 123), (0, 41, 5, 145), (0, 48, 3, 168), (0, 188, 6, 650), (5, 9, 1, 151), (8, 7, 0, 78), (8, 10, 7, 735)]
def ai_aq : List (Nat × Nat × Nat) := [(0, 13, 86)]
def ai_l1 : List (Nat × Nat × Int32 × Nat) := [(9, 157, 100000, 961)]
def ai_l2 : List (Nat × Nat × Int64 × Nat) := [(0, 101, 1099511627776, 296), (0, 109, 4294967296, 306), (0, 111, 8589934592, 307), (3, 72, 2, 614), (3, 74, (-2), 615), (3, 76, 127, 616), (7, 70, 1099511627776, 699), (7, 84, 4294967296, 700), (9, 71, 8589934592, 745), (9, 84, 4294967296, 844), (9, 86, 1099511627776, 861), (9, 180, 6, 998), (9, 194, 2, 1023), (9, 196, (-2), 1024), (9, 198, 128, 1025), (9, 224, 4294967295, 1058)]
def ai_vm : List (Nat × Nat × Nat) := [(1, 520, 521), (2, 731, 732), (3, 503, 504), (4, 639, 640), (5, 647, 648), (6, 351, 352), (7, 585, 586), (8, 633, 634), (9, 256, 257), (10, 337, 2), (11, 284, 285), (12, 248, 249), (13, 429, 430), (14, 228, 229), (15, 511, 512), (16, 232, 233), (17, 272, 273), (18, 332, 333), (19, 340, 341), (20, 309, 310), (21, 288, 289), (23, 370, 3), (24, 365, 366), (25, 498, 499), (26, 408, 409), (27, 421, 422), (28, 404, 405), (29, 464, 465), (30, 359, 360), (31, 442, 443), (32, 550, 551), (33, 539, 540), (34, 477, 478), (35, 472, 473), (36, 716, 717), (37, 726, 25), (38, 515, 516), (39, 580, 581), (40, 412, 413), (41, 450, 451), (42, 456, 457), (43, 446, 447), (44, 468, 469), (45, 494, 495), (46, 425, 426), (47, 721, 24), (48, 546, 547), (49, 461, 11), (51, 401, 9), (53, 393, 7), (54, 381, 5), (55, 355, 356), (56, 397, 8), (57, 386, 6), (58, 375, 4), (60, 593, 594), (61, 673, 674), (62, 597, 598), (63, 643, 644), (64, 629, 630), (65, 625, 626), (66, 589, 590), (67, 606, 13), (68, 619, 15), (69, 612, 14), (71, 183, 184), (72, 576, 577), (73, 313, 314), (74, 280, 281), (75, 303, 304), (76, 320, 321), (77, 187, 188), (78, 244, 245), (79, 240, 241), (80, 252, 253), (81, 276, 277), (82, 236, 237), (83, 260, 261), (84, 292, 293), (85, 264, 265), (86, 344, 345), (87, 268, 269), (88, 325, 0), (89, 329, 1), (91, 298, 299), (93, 439, 10), (94, 507, 508), (95, 485, 486), (96, 433, 434), (97, 489, 490), (98, 482, 12), (108, 678, 17), (109, 670, 16), (110, 664, 665), (111, 688, 19), (112, 684, 18), (113, 706, 22), (114, 693, 20), (115, 711, 23), (116, 697, 21), (119, 904, 35), (120, 931, 41), (121, 888, 32), (122, 975, 976), (123, 988, 51), (124, 1035, 1036), (125, 947, 44), (126, 743, 26), (127, 967, 968), (128, 868, 29), (129, 992, 52), (130, 1031, 1032), (131, 1039, 1040), (132, 891, 892), (133, 896, 33), (134, 900, 34), (135, 1008, 1009), (136, 951, 45), (137, 1027, 1028), (138, 943, 43), (139, 980, 49), (140, 1061, 63), (141, 1065, 64), (142, 996, 53), (143, 846, 847), (145, 880, 31), (146, 916, 38), (147, 955, 46), (148, 912, 37), (149, 854, 855), (150, 841, 842), (151, 835, 28), (152, 938, 939), (153, 1048, 60), (154, 1056, 62), (155, 822, 823), (156, 971, 972), (157, 984, 50), (158, 872, 30), (159, 826, 827), (160, 959, 47), (161, 1044, 59), (162, 1052, 61), (163, 1001, 54), (164, 850, 851), (165, 875, 876), (166, 883, 884), (167, 935, 42), (169, 831, 27), (170, 863, 864), (171, 927, 40), (172, 1005, 55), (173, 908, 36), (174, 920, 39), (175, 964, 48), (176, 858, 859), (177, 1017, 57), (178, 1013, 56), (179, 1021, 58)]
def ai_im : List (Nat × Nat) := [(0, 81), (22, 113), (50, 126), (59, 171), (70, 89), (92, 148), (107, 653), (118, 738)]
def ai_sm : List (Nat × Nat) := [(52, 416), (90, 348), (99, 562), (100, 569), (101, 543), (102, 572), (103, 524), (104, 535), (105, 556), (106, 528), (117, 702), (144, 838), (168, 923), (180, 93), (181, 191), (182, 194)]
def ai_ft : List (Nat × Nat × Nat × Bool) := [(0, 0, 3, true), (0, 1, 0, false), (0, 2, 3, true), (0, 3, 3, true), (0, 4, 0, false), (0, 5, 3, false), (0, 6, 3, false), (0, 7, 3, true), (0, 8, 3, true), (0, 9, 3, true), (1, 0, 3, true), (1, 1, 0, false), (2, 0, 3, true), (2, 1, 3, true), (2, 2, 0, false), (2, 3, 0, false), (2, 4, 3, true), (3, 0, 3, true), (3, 1, 0, false), (4, 0, 3, true), (4, 1, 3, true), (4, 2, 3, true), (4, 3, 3, true), (5, 0, 3, true), (5, 1, 3, true), (5, 2, 3, true), (5, 3, 0, false), (6, 0, 3, true), (6, 1, 0, false), (7, 0, 0, false), (7, 1, 3, true), (7, 2, 0, false), (7, 3, 3, true), (7, 4, 3, true), (7, 5, 3, true), (7, 6, 3, true), (7, 7, 3, true), (7, 8, 3, true), (7, 9, 3, true), (7, 10, 3, true), (7, 11, 3, true), (7, 12, 3, true), (7, 13, 3, true), (7, 14, 3, true), (7, 15, 3, true), (7, 16, 0, false), (7, 17, 3, true), (7, 18, 0, false), (7, 19, 3, true), (7, 20, 0, false), (7, 21, 3, true), (7, 22, 0, false), (7, 23, 1, false)]
theorem ai_beq {a b : Nat} : (Nat.beq a b = true) = (a = b) := propext ⟨Nat.eq_of_beq_eq_true, fun h => by subst h; exact Nat.beq_refl a⟩
def ai_q2 (l : List (Nat × Nat × Nat)) (o q : Nat) : Bool := l.any (fun e => Nat.beq e.1 o && Nat.beq e.2.1 q)
def ai_q3 (l : List (Nat × Nat × Nat × Nat)) (o q a : Nat) : Bool := l.any (fun e => Nat.beq e.1 o && (Nat.beq e.2.1 q && Nat.beq e.2.2.1 a))
theorem ai_q2_ok {l : List (Nat × Nat × Nat)} {o q : Nat} (h : ai_q2 l o q = true) : ∃ k, (o, q, k) ∈ l := by
  obtain ⟨e, he, h2⟩ := List.any_eq_true.mp h
  simp only [Bool.and_eq_true, ai_beq] at h2
  obtain ⟨rfl, rfl⟩ := h2
  exact ⟨e.2.2, he⟩
theorem ai_q3_ok {l : List (Nat × Nat × Nat × Nat)} {o q a : Nat} (h : ai_q3 l o q a = true) : ∃ k, (o, q, a, k) ∈ l := by
  obtain ⟨e, he, h2⟩ := List.any_eq_true.mp h
  simp only [Bool.and_eq_true, ai_beq] at h2
  obtain ⟨rfl, rfl, rfl⟩ := h2
  exact ⟨e.2.2.2, he⟩
set_option maxRecDepth 100000 in
theorem ai_ml_ok : ∀ e ∈ ai_ml, Cond.methodLink (ai_nm e.1) e.2.1 (ai_y e.2.2.1) ∈ ai_wd := by
  have h : (ai_ml.all fun e => decide (lw_tbl[e.2.2.2]? = some (Cond.methodLink (ai_nm e.1) e.2.1 (ai_y e.2.2.1))) && goodWord (Cond.methodLink (ai_nm e.1) e.2.1 (ai_y e.2.2.1))) = true := by decide +kernel
  intro e he
  have h2 := List.all_eq_true.mp h e he
  simp only [Bool.and_eq_true, decide_eq_true_eq] at h2
  exact ai_mem _ h2.1 h2.2
set_option maxRecDepth 100000 in
theorem ai_oi_ok : ∀ e ∈ ai_oi, Cond.methodLink (ai_nm e.1) e.2.1 objectInit ∈ ai_wd := by
  have h : (ai_oi.all fun e => decide (lw_tbl[e.2.2]? = some (Cond.methodLink (ai_nm e.1) e.2.1 objectInit)) && goodWord (Cond.methodLink (ai_nm e.1) e.2.1 objectInit)) = true := by decide +kernel
  intro e he
  have h2 := List.all_eq_true.mp h e he
  simp only [Bool.and_eq_true, decide_eq_true_eq] at h2
  exact ai_mem _ h2.1 h2.2
set_option maxRecDepth 100000 in
theorem ai_mm_ok : ∀ e ∈ ai_mm, Cond.methodLink (ai_nm e.1) e.2.1 Lib.Math.max.name ∈ ai_wd := by
  have h : (ai_mm.all fun e => decide (lw_tbl[e.2.2]? = some (Cond.methodLink (ai_nm e.1) e.2.1 Lib.Math.max.name)) && goodWord (Cond.methodLink (ai_nm e.1) e.2.1 Lib.Math.max.name)) = true := by decide +kernel
  intro e he
  have h2 := List.all_eq_true.mp h e he
  simp only [Bool.and_eq_true, decide_eq_true_eq] at h2
  exact ai_mem _ h2.1 h2.2
set_option maxRecDepth 100000 in
theorem ai_cp_ok : ∀ e ∈ ai_cp, Cond.methodLink (ai_nm e.1) e.2.1 arraycopyName ∈ ai_wd := by
  have h : (ai_cp.all fun e => decide (lw_tbl[e.2.2]? = some (Cond.methodLink (ai_nm e.1) e.2.1 arraycopyName)) && goodWord (Cond.methodLink (ai_nm e.1) e.2.1 arraycopyName)) = true := by decide +kernel
  intro e he
  have h2 := List.all_eq_true.mp h e he
  simp only [Bool.and_eq_true, decide_eq_true_eq] at h2
  exact ai_mem _ h2.1 h2.2
set_option maxRecDepth 100000 in
theorem ai_aq_ok : ∀ e ∈ ai_aq, Cond.classLink (ai_nm e.1) e.2.1 ai_RG ∈ ai_wd := by
  have h : (ai_aq.all fun e => decide (lw_tbl[e.2.2]? = some (Cond.classLink (ai_nm e.1) e.2.1 ai_RG)) && goodWord (Cond.classLink (ai_nm e.1) e.2.1 ai_RG)) = true := by decide +kernel
  intro e he
  have h2 := List.all_eq_true.mp h e he
  simp only [Bool.and_eq_true, decide_eq_true_eq] at h2
  exact ai_mem _ h2.1 h2.2
set_option maxRecDepth 100000 in
theorem ai_l1_ok : ∀ e ∈ ai_l1, Cond.constant (ai_nm e.1) e.2.1 e.2.2.1 ∈ ai_wd := by
  have h : (ai_l1.all fun e => decide (lw_tbl[e.2.2.2]? = some (Cond.constant (ai_nm e.1) e.2.1 e.2.2.1)) && goodWord (Cond.constant (ai_nm e.1) e.2.1 e.2.2.1)) = true := by decide +kernel
  intro e he
  have h2 := List.all_eq_true.mp h e he
  simp only [Bool.and_eq_true, decide_eq_true_eq] at h2
  exact ai_mem _ h2.1 h2.2
set_option maxRecDepth 100000 in
theorem ai_l2_ok : ∀ e ∈ ai_l2, Cond.constantLong (ai_nm e.1) e.2.1 e.2.2.1 ∈ ai_wd := by
  have h : (ai_l2.all fun e => decide (lw_tbl[e.2.2.2]? = some (Cond.constantLong (ai_nm e.1) e.2.1 e.2.2.1)) && goodWord (Cond.constantLong (ai_nm e.1) e.2.1 e.2.2.1)) = true := by decide +kernel
  intro e he
  have h2 := List.all_eq_true.mp h e he
  simp only [Bool.and_eq_true, decide_eq_true_eq] at h2
  exact ai_mem _ h2.1 h2.2
set_option maxRecDepth 100000 in
theorem ai_vm_ok1 : ∀ e ∈ ai_vm, Cond.instanceMethod (ai_y e.1) ∈ ai_wd := by
  have h : (ai_vm.all fun e => decide (lw_tbl[e.2.1]? = some (Cond.instanceMethod (ai_y e.1))) && goodWord (Cond.instanceMethod (ai_y e.1))) = true := by decide +kernel
  intro e he
  have h2 := List.all_eq_true.mp h e he
  simp only [Bool.and_eq_true, decide_eq_true_eq] at h2
  exact ai_mem _ h2.1 h2.2
set_option maxRecDepth 100000 in
theorem ai_vm_ok2 : ∀ e ∈ ai_vm, Cond.selects (ai_y e.1).cls (ai_y e.1) (ai_y e.1) ∈ ai_wd := by
  have h : (ai_vm.all fun e => decide (lw_tbl[e.2.2]? = some (Cond.selects (ai_y e.1).cls (ai_y e.1) (ai_y e.1))) && goodWord (Cond.selects (ai_y e.1).cls (ai_y e.1) (ai_y e.1))) = true := by decide +kernel
  intro e he
  have h2 := List.all_eq_true.mp h e he
  simp only [Bool.and_eq_true, decide_eq_true_eq] at h2
  exact ai_mem _ h2.1 h2.2
set_option maxRecDepth 100000 in
theorem ai_im_ok : ∀ e ∈ ai_im, Cond.instanceMethod (ai_y e.1) ∈ ai_wd := by
  have h : (ai_im.all fun e => decide (lw_tbl[e.2]? = some (Cond.instanceMethod (ai_y e.1))) && goodWord (Cond.instanceMethod (ai_y e.1))) = true := by decide +kernel
  intro e he
  have h2 := List.all_eq_true.mp h e he
  simp only [Bool.and_eq_true, decide_eq_true_eq] at h2
  exact ai_mem _ h2.1 h2.2
set_option maxRecDepth 100000 in
theorem ai_sm_ok : ∀ e ∈ ai_sm, Cond.static (ai_y e.1) ∈ ai_wd := by
  have h : (ai_sm.all fun e => decide (lw_tbl[e.2]? = some (Cond.static (ai_y e.1))) && goodWord (Cond.static (ai_y e.1))) = true := by decide +kernel
  intro e he
  have h2 := List.all_eq_true.mp h e he
  simp only [Bool.and_eq_true, decide_eq_true_eq] at h2
  exact ai_mem _ h2.1 h2.2
def ai_Tf (ci : Nat) : u_T := match ci with
  | 0 => ai_T0
  | 1 => ai_T1
  | 2 => ai_T2
  | 3 => ai_T3
  | 4 => ai_T4
  | 5 => ai_T5
  | 6 => ai_T6
  | _ => ai_T7
def ai_cn (ci : Nat) : String := match ci with
  | 0 => "GraphDeltas"
  | 1 => "GraphDeltas$Delta"
  | 2 => "GraphDeltas$Difference"
  | 3 => "GraphDeltas$Draft"
  | 4 => "GraphDeltas$Graph"
  | 5 => "GraphDeltas$Merger"
  | 6 => "GraphDeltas$Reader"
  | _ => "GraphDeltasModel"
def ai_nf (ci : Nat) : Nat := match ci with
  | 0 => 10
  | 1 => 2
  | 2 => 5
  | 3 => 2
  | 4 => 4
  | 5 => 4
  | 6 => 2
  | _ => 24
set_option maxRecDepth 100000 in
theorem ai_fl_ok : ∀ e ∈ ai_fl, Cond.fieldLink (ai_nm e.1) e.2.1 (ai_Tf e.2.2.1 e.2.2.2.1).1 (ai_Tf e.2.2.1 e.2.2.2.1).2.1 (ai_Tf e.2.2.1 e.2.2.2.1).2.2.1 ∈ ai_wd := by
  have h : (ai_fl.all fun e => decide (lw_tbl[e.2.2.2.2]? = some (Cond.fieldLink (ai_nm e.1) e.2.1 (ai_Tf e.2.2.1 e.2.2.2.1).1 (ai_Tf e.2.2.1 e.2.2.2.1).2.1 (ai_Tf e.2.2.1 e.2.2.2.1).2.2.1)) && goodWord (Cond.fieldLink (ai_nm e.1) e.2.1 (ai_Tf e.2.2.1 e.2.2.2.1).1 (ai_Tf e.2.2.1 e.2.2.2.1).2.1 (ai_Tf e.2.2.1 e.2.2.2.1).2.2.1)) = true := by decide +kernel
  intro e he
  have h2 := List.all_eq_true.mp h e he
  simp only [Bool.and_eq_true, decide_eq_true_eq] at h2
  exact ai_mem _ h2.1 h2.2
set_option maxRecDepth 100000 in
theorem ai_nq_ok : ∀ e ∈ ai_nq, Cond.classLink (ai_nm e.1) e.2.1 (ai_cn e.2.2.1) ∈ ai_wd := by
  have h : (ai_nq.all fun e => decide (lw_tbl[e.2.2.2]? = some (Cond.classLink (ai_nm e.1) e.2.1 (ai_cn e.2.2.1))) && goodWord (Cond.classLink (ai_nm e.1) e.2.1 (ai_cn e.2.2.1))) = true := by decide +kernel
  intro e he
  have h2 := List.all_eq_true.mp h e he
  simp only [Bool.and_eq_true, decide_eq_true_eq] at h2
  exact ai_mem _ h2.1 h2.2
theorem ai_nm0 : ∀ a, a < 10 → ∀ b, b < 10 → a ≠ b → (ai_T0 a).2.1 ≠ (ai_T0 b).2.1 := by decide +kernel
theorem ai_tyok0 : ∀ k, k < 10 → parseFieldDescriptor (ai_T0 k).2.2.1 = some (ai_ty0 k) := by decide +kernel
theorem ai_lay0 : ∀ x ∈ u_ws "GraphDeltas" ai_T0 10, x ∈ ai_wd := by
  have h : ((List.range 10).all fun k => decide (lw_tbl[([206, 208, 210, 212, 214, 216, 218, 220, 222, 224] : List Nat).getD k 0]? = some (u_lay "GraphDeltas" ai_T0 k)) && goodWord (u_lay "GraphDeltas" ai_T0 k)) = true := by decide +kernel
  intro x hx
  obtain ⟨k, hk, rfl⟩ := List.mem_map.mp hx
  have h2 := List.all_eq_true.mp h k hk
  simp only [Bool.and_eq_true, decide_eq_true_eq] at h2
  exact ai_mem _ h2.1 h2.2
theorem ai_inst0 : Cond.instantiable "GraphDeltas" 10 ∈ ai_wd := ai_mem 79 (by decide +kernel) rfl
theorem ai_ini0 : Cond.initialized "GraphDeltas" ∈ ai_wd := ai_mem 66 (by decide +kernel) rfl
theorem ai_nm1 : ∀ a, a < 2 → ∀ b, b < 2 → a ≠ b → (ai_T1 a).2.1 ≠ (ai_T1 b).2.1 := by decide +kernel
theorem ai_tyok1 : ∀ k, k < 2 → parseFieldDescriptor (ai_T1 k).2.2.1 = some (ai_ty1 k) := by decide +kernel
theorem ai_lay1 : ∀ x ∈ u_ws "GraphDeltas$Delta" ai_T1 2, x ∈ ai_wd := by
  have h : ((List.range 2).all fun k => decide (lw_tbl[([118, 120] : List Nat).getD k 0]? = some (u_lay "GraphDeltas$Delta" ai_T1 k)) && goodWord (u_lay "GraphDeltas$Delta" ai_T1 k)) = true := by decide +kernel
  intro x hx
  obtain ⟨k, hk, rfl⟩ := List.mem_map.mp hx
  have h2 := List.all_eq_true.mp h k hk
  simp only [Bool.and_eq_true, decide_eq_true_eq] at h2
  exact ai_mem _ h2.1 h2.2
theorem ai_inst1 : Cond.instantiable "GraphDeltas$Delta" 2 ∈ ai_wd := ai_mem 111 (by decide +kernel) rfl
theorem ai_ini1 : Cond.initialized "GraphDeltas$Delta" ∈ ai_wd := ai_mem 69 (by decide +kernel) rfl
theorem ai_nm2 : ∀ a, a < 5 → ∀ b, b < 5 → a ≠ b → (ai_T2 a).2.1 ≠ (ai_T2 b).2.1 := by decide +kernel
theorem ai_tyok2 : ∀ k, k < 5 → parseFieldDescriptor (ai_T2 k).2.2.1 = some (ai_ty2 k) := by decide +kernel
theorem ai_lay2 : ∀ x ∈ u_ws "GraphDeltas$Difference" ai_T2 5, x ∈ ai_wd := by
  have h : ((List.range 5).all fun k => decide (lw_tbl[([134, 136, 138, 140, 142] : List Nat).getD k 0]? = some (u_lay "GraphDeltas$Difference" ai_T2 k)) && goodWord (u_lay "GraphDeltas$Difference" ai_T2 k)) = true := by decide +kernel
  intro x hx
  obtain ⟨k, hk, rfl⟩ := List.mem_map.mp hx
  have h2 := List.all_eq_true.mp h k hk
  simp only [Bool.and_eq_true, decide_eq_true_eq] at h2
  exact ai_mem _ h2.1 h2.2
theorem ai_inst2 : Cond.instantiable "GraphDeltas$Difference" 5 ∈ ai_wd := ai_mem 124 (by decide +kernel) rfl
theorem ai_ini2 : Cond.initialized "GraphDeltas$Difference" ∈ ai_wd := ai_mem 70 (by decide +kernel) rfl
theorem ai_nm3 : ∀ a, a < 2 → ∀ b, b < 2 → a ≠ b → (ai_T3 a).2.1 ≠ (ai_T3 b).2.1 := by decide +kernel
theorem ai_tyok3 : ∀ k, k < 2 → parseFieldDescriptor (ai_T3 k).2.2.1 = some (ai_ty3 k) := by decide +kernel
theorem ai_lay3 : ∀ x ∈ u_ws "GraphDeltas$Draft" ai_T3 2, x ∈ ai_wd := by
  have h : ((List.range 2).all fun k => decide (lw_tbl[([176, 178] : List Nat).getD k 0]? = some (u_lay "GraphDeltas$Draft" ai_T3 k)) && goodWord (u_lay "GraphDeltas$Draft" ai_T3 k)) = true := by decide +kernel
  intro x hx
  obtain ⟨k, hk, rfl⟩ := List.mem_map.mp hx
  have h2 := List.all_eq_true.mp h k hk
  simp only [Bool.and_eq_true, decide_eq_true_eq] at h2
  exact ai_mem _ h2.1 h2.2
theorem ai_inst3 : Cond.instantiable "GraphDeltas$Draft" 2 ∈ ai_wd := ai_mem 169 (by decide +kernel) rfl
theorem ai_ini3 : Cond.initialized "GraphDeltas$Draft" ∈ ai_wd := ai_mem 72 (by decide +kernel) rfl
theorem ai_nm4 : ∀ a, a < 4 → ∀ b, b < 4 → a ≠ b → (ai_T4 a).2.1 ≠ (ai_T4 b).2.1 := by decide +kernel
theorem ai_tyok4 : ∀ k, k < 4 → parseFieldDescriptor (ai_T4 k).2.2.1 = some (ai_ty4 k) := by decide +kernel
theorem ai_lay4 : ∀ x ∈ u_ws "GraphDeltas$Graph" ai_T4 4, x ∈ ai_wd := by
  have h : ((List.range 4).all fun k => decide (lw_tbl[([99, 101, 103, 105] : List Nat).getD k 0]? = some (u_lay "GraphDeltas$Graph" ai_T4 k)) && goodWord (u_lay "GraphDeltas$Graph" ai_T4 k)) = true := by decide +kernel
  intro x hx
  obtain ⟨k, hk, rfl⟩ := List.mem_map.mp hx
  have h2 := List.all_eq_true.mp h k hk
  simp only [Bool.and_eq_true, decide_eq_true_eq] at h2
  exact ai_mem _ h2.1 h2.2
theorem ai_inst4 : Cond.instantiable "GraphDeltas$Graph" 4 ∈ ai_wd := ai_mem 87 (by decide +kernel) rfl
theorem ai_ini4 : Cond.initialized "GraphDeltas$Graph" ∈ ai_wd := ai_mem 67 (by decide +kernel) rfl
theorem ai_nm5 : ∀ a, a < 4 → ∀ b, b < 4 → a ≠ b → (ai_T5 a).2.1 ≠ (ai_T5 b).2.1 := by decide +kernel
theorem ai_tyok5 : ∀ k, k < 4 → parseFieldDescriptor (ai_T5 k).2.2.1 = some (ai_ty5 k) := by decide +kernel
theorem ai_lay5 : ∀ x ∈ u_ws "GraphDeltas$Merger" ai_T5 4, x ∈ ai_wd := by
  have h : ((List.range 4).all fun k => decide (lw_tbl[([159, 161, 163, 165] : List Nat).getD k 0]? = some (u_lay "GraphDeltas$Merger" ai_T5 k)) && goodWord (u_lay "GraphDeltas$Merger" ai_T5 k)) = true := by decide +kernel
  intro x hx
  obtain ⟨k, hk, rfl⟩ := List.mem_map.mp hx
  have h2 := List.all_eq_true.mp h k hk
  simp only [Bool.and_eq_true, decide_eq_true_eq] at h2
  exact ai_mem _ h2.1 h2.2
theorem ai_inst5 : Cond.instantiable "GraphDeltas$Merger" 4 ∈ ai_wd := ai_mem 146 (by decide +kernel) rfl
theorem ai_ini5 : Cond.initialized "GraphDeltas$Merger" ∈ ai_wd := ai_mem 71 (by decide +kernel) rfl
theorem ai_nm6 : ∀ a, a < 2 → ∀ b, b < 2 → a ≠ b → (ai_T6 a).2.1 ≠ (ai_T6 b).2.1 := by decide +kernel
theorem ai_tyok6 : ∀ k, k < 2 → parseFieldDescriptor (ai_T6 k).2.2.1 = some (ai_ty6 k) := by decide +kernel
theorem ai_lay6 : ∀ x ∈ u_ws "GraphDeltas$Reader" ai_T6 2, x ∈ ai_wd := by
  have h : ((List.range 2).all fun k => decide (lw_tbl[([658, 660] : List Nat).getD k 0]? = some (u_lay "GraphDeltas$Reader" ai_T6 k)) && goodWord (u_lay "GraphDeltas$Reader" ai_T6 k)) = true := by decide +kernel
  intro x hx
  obtain ⟨k, hk, rfl⟩ := List.mem_map.mp hx
  have h2 := List.all_eq_true.mp h k hk
  simp only [Bool.and_eq_true, decide_eq_true_eq] at h2
  exact ai_mem _ h2.1 h2.2
theorem ai_inst6 : Cond.instantiable "GraphDeltas$Reader" 2 ∈ ai_wd := ai_mem 651 (by decide +kernel) rfl
theorem ai_ini6 : Cond.initialized "GraphDeltas$Reader" ∈ ai_wd := ai_mem 77 (by decide +kernel) rfl
theorem ai_nm7 : ∀ a, a < 24 → ∀ b, b < 24 → a ≠ b → (ai_T7 a).2.1 ≠ (ai_T7 b).2.1 := by decide +kernel
theorem ai_tyok7 : ∀ k, k < 24 → parseFieldDescriptor (ai_T7 k).2.2.1 = some (ai_ty7 k) := by decide +kernel
theorem ai_lay7 : ∀ x ∈ u_ws "GraphDeltasModel" ai_T7 24, x ∈ ai_wd := by
  have h : ((List.range 24).all fun k => decide (lw_tbl[([770, 772, 774, 776, 778, 780, 782, 784, 786, 788, 790, 792, 794, 796, 798, 800, 802, 804, 806, 808, 810, 812, 814, 816] : List Nat).getD k 0]? = some (u_lay "GraphDeltasModel" ai_T7 k)) && goodWord (u_lay "GraphDeltasModel" ai_T7 k)) = true := by decide +kernel
  intro x hx
  obtain ⟨k, hk, rfl⟩ := List.mem_map.mp hx
  have h2 := List.all_eq_true.mp h k hk
  simp only [Bool.and_eq_true, decide_eq_true_eq] at h2
  exact ai_mem _ h2.1 h2.2
theorem ai_inst7 : Cond.instantiable "GraphDeltasModel" 24 ∈ ai_wd := ai_mem 736 (by decide +kernel) rfl
theorem ai_ini7 : Cond.initialized "GraphDeltasModel" ∈ ai_wd := ai_mem 73 (by decide +kernel) rfl
set_option maxRecDepth 100000 in
theorem ai_cd0 : Cond.code (ai_y 0) (ai_cc 0) (ai_mx 0) (ai_ret 0) ∈ ai_wd := ai_mem 82 rfl rfl
set_option maxRecDepth 100000 in
theorem ai_cd1 : Cond.code (ai_y 1) (ai_cc 1) (ai_mx 1) (ai_ret 1) ∈ ai_wd := ai_mem 522 rfl rfl
set_option maxRecDepth 100000 in
theorem ai_cd2 : Cond.code (ai_y 2) (ai_cc 2) (ai_mx 2) (ai_ret 2) ∈ ai_wd := ai_mem 733 rfl rfl
set_option maxRecDepth 100000 in
theorem ai_cd3 : Cond.code (ai_y 3) (ai_cc 3) (ai_mx 3) (ai_ret 3) ∈ ai_wd := ai_mem 505 rfl rfl
set_option maxRecDepth 100000 in
theorem ai_cd4 : Cond.code (ai_y 4) (ai_cc 4) (ai_mx 4) (ai_ret 4) ∈ ai_wd := ai_mem 641 rfl rfl
set_option maxRecDepth 100000 in
theorem ai_cd5 : Cond.code (ai_y 5) (ai_cc 5) (ai_mx 5) (ai_ret 5) ∈ ai_wd := ai_mem 649 rfl rfl
set_option maxRecDepth 100000 in
theorem ai_cd6 : Cond.code (ai_y 6) (ai_cc 6) (ai_mx 6) (ai_ret 6) ∈ ai_wd := ai_mem 353 rfl rfl
set_option maxRecDepth 100000 in
theorem ai_cd7 : Cond.code (ai_y 7) (ai_cc 7) (ai_mx 7) (ai_ret 7) ∈ ai_wd := ai_mem 587 rfl rfl
set_option maxRecDepth 100000 in
theorem ai_cd8 : Cond.code (ai_y 8) (ai_cc 8) (ai_mx 8) (ai_ret 8) ∈ ai_wd := ai_mem 635 rfl rfl
set_option maxRecDepth 100000 in
theorem ai_cd9 : Cond.code (ai_y 9) (ai_cc 9) (ai_mx 9) (ai_ret 9) ∈ ai_wd := ai_mem 258 rfl rfl
set_option maxRecDepth 100000 in
theorem ai_cd10 : Cond.code (ai_y 10) (ai_cc 10) (ai_mx 10) (ai_ret 10) ∈ ai_wd := ai_mem 338 rfl rfl
set_option maxRecDepth 100000 in
theorem ai_cd11 : Cond.code (ai_y 11) (ai_cc 11) (ai_mx 11) (ai_ret 11) ∈ ai_wd := ai_mem 286 rfl rfl
set_option maxRecDepth 100000 in
theorem ai_cd12 : Cond.code (ai_y 12) (ai_cc 12) (ai_mx 12) (ai_ret 12) ∈ ai_wd := ai_mem 250 rfl rfl
set_option maxRecDepth 100000 in
theorem ai_cd13 : Cond.code (ai_y 13) (ai_cc 13) (ai_mx 13) (ai_ret 13) ∈ ai_wd := ai_mem 431 rfl rfl
set_option maxRecDepth 100000 in
theorem ai_cd14 : Cond.code (ai_y 14) (ai_cc 14) (ai_mx 14) (ai_ret 14) ∈ ai_wd := ai_mem 230 rfl rfl
set_option maxRecDepth 100000 in
theorem ai_cd15 : Cond.code (ai_y 15) (ai_cc 15) (ai_mx 15) (ai_ret 15) ∈ ai_wd := ai_mem 513 rfl rfl
set_option maxRecDepth 100000 in
theorem ai_cd16 : Cond.code (ai_y 16) (ai_cc 16) (ai_mx 16) (ai_ret 16) ∈ ai_wd := ai_mem 234 rfl rfl
set_option maxRecDepth 100000 in
theorem ai_cd17 : Cond.code (ai_y 17) (ai_cc 17) (ai_mx 17) (ai_ret 17) ∈ ai_wd := ai_mem 274 rfl rfl
set_option maxRecDepth 100000 in
theorem ai_cd18 : Cond.code (ai_y 18) (ai_cc 18) (ai_mx 18) (ai_ret 18) ∈ ai_wd := ai_mem 334 rfl rfl
set_option maxRecDepth 100000 in
theorem ai_cd19 : Cond.code (ai_y 19) (ai_cc 19) (ai_mx 19) (ai_ret 19) ∈ ai_wd := ai_mem 342 rfl rfl
set_option maxRecDepth 100000 in
theorem ai_cd20 : Cond.code (ai_y 20) (ai_cc 20) (ai_mx 20) (ai_ret 20) ∈ ai_wd := ai_mem 311 rfl rfl
set_option maxRecDepth 100000 in
theorem ai_cd21 : Cond.code (ai_y 21) (ai_cc 21) (ai_mx 21) (ai_ret 21) ∈ ai_wd := ai_mem 290 rfl rfl
set_option maxRecDepth 100000 in
theorem ai_cd22 : Cond.code (ai_y 22) (ai_cc 22) (ai_mx 22) (ai_ret 22) ∈ ai_wd := ai_mem 114 rfl rfl
set_option maxRecDepth 100000 in
theorem ai_cd23 : Cond.code (ai_y 23) (ai_cc 23) (ai_mx 23) (ai_ret 23) ∈ ai_wd := ai_mem 371 rfl rfl
set_option maxRecDepth 100000 in
theorem ai_cd24 : Cond.code (ai_y 24) (ai_cc 24) (ai_mx 24) (ai_ret 24) ∈ ai_wd := ai_mem 367 rfl rfl
set_option maxRecDepth 100000 in
theorem ai_cd25 : Cond.code (ai_y 25) (ai_cc 25) (ai_mx 25) (ai_ret 25) ∈ ai_wd := ai_mem 500 rfl rfl
set_option maxRecDepth 100000 in
theorem ai_cd26 : Cond.code (ai_y 26) (ai_cc 26) (ai_mx 26) (ai_ret 26) ∈ ai_wd := ai_mem 410 rfl rfl
set_option maxRecDepth 100000 in
theorem ai_cd27 : Cond.code (ai_y 27) (ai_cc 27) (ai_mx 27) (ai_ret 27) ∈ ai_wd := ai_mem 423 rfl rfl
set_option maxRecDepth 100000 in
theorem ai_cd28 : Cond.code (ai_y 28) (ai_cc 28) (ai_mx 28) (ai_ret 28) ∈ ai_wd := ai_mem 406 rfl rfl
set_option maxRecDepth 100000 in
theorem ai_cd29 : Cond.code (ai_y 29) (ai_cc 29) (ai_mx 29) (ai_ret 29) ∈ ai_wd := ai_mem 466 rfl rfl
set_option maxRecDepth 100000 in
theorem ai_cd30 : Cond.code (ai_y 30) (ai_cc 30) (ai_mx 30) (ai_ret 30) ∈ ai_wd := ai_mem 361 rfl rfl
set_option maxRecDepth 100000 in
theorem ai_cd31 : Cond.code (ai_y 31) (ai_cc 31) (ai_mx 31) (ai_ret 31) ∈ ai_wd := ai_mem 444 rfl rfl
set_option maxRecDepth 100000 in
theorem ai_cd32 : Cond.code (ai_y 32) (ai_cc 32) (ai_mx 32) (ai_ret 32) ∈ ai_wd := ai_mem 552 rfl rfl
set_option maxRecDepth 100000 in
theorem ai_cd33 : Cond.code (ai_y 33) (ai_cc 33) (ai_mx 33) (ai_ret 33) ∈ ai_wd := ai_mem 541 rfl rfl
set_option maxRecDepth 100000 in
theorem ai_cd34 : Cond.code (ai_y 34) (ai_cc 34) (ai_mx 34) (ai_ret 34) ∈ ai_wd := ai_mem 479 rfl rfl
set_option maxRecDepth 100000 in
theorem ai_cd35 : Cond.code (ai_y 35) (ai_cc 35) (ai_mx 35) (ai_ret 35) ∈ ai_wd := ai_mem 474 rfl rfl
set_option maxRecDepth 100000 in
theorem ai_cd36 : Cond.code (ai_y 36) (ai_cc 36) (ai_mx 36) (ai_ret 36) ∈ ai_wd := ai_mem 718 rfl rfl
set_option maxRecDepth 100000 in
theorem ai_cd37 : Cond.code (ai_y 37) (ai_cc 37) (ai_mx 37) (ai_ret 37) ∈ ai_wd := ai_mem 727 rfl rfl
set_option maxRecDepth 100000 in
theorem ai_cd38 : Cond.code (ai_y 38) (ai_cc 38) (ai_mx 38) (ai_ret 38) ∈ ai_wd := ai_mem 517 rfl rfl
set_option maxRecDepth 100000 in
theorem ai_cd39 : Cond.code (ai_y 39) (ai_cc 39) (ai_mx 39) (ai_ret 39) ∈ ai_wd := ai_mem 582 rfl rfl
set_option maxRecDepth 100000 in
theorem ai_cd40 : Cond.code (ai_y 40) (ai_cc 40) (ai_mx 40) (ai_ret 40) ∈ ai_wd := ai_mem 414 rfl rfl
set_option maxRecDepth 100000 in
theorem ai_cd41 : Cond.code (ai_y 41) (ai_cc 41) (ai_mx 41) (ai_ret 41) ∈ ai_wd := ai_mem 452 rfl rfl
set_option maxRecDepth 100000 in
theorem ai_cd42 : Cond.code (ai_y 42) (ai_cc 42) (ai_mx 42) (ai_ret 42) ∈ ai_wd := ai_mem 458 rfl rfl
set_option maxRecDepth 100000 in
theorem ai_cd43 : Cond.code (ai_y 43) (ai_cc 43) (ai_mx 43) (ai_ret 43) ∈ ai_wd := ai_mem 448 rfl rfl
set_option maxRecDepth 100000 in
theorem ai_cd44 : Cond.code (ai_y 44) (ai_cc 44) (ai_mx 44) (ai_ret 44) ∈ ai_wd := ai_mem 470 rfl rfl
set_option maxRecDepth 100000 in
theorem ai_cd45 : Cond.code (ai_y 45) (ai_cc 45) (ai_mx 45) (ai_ret 45) ∈ ai_wd := ai_mem 496 rfl rfl
set_option maxRecDepth 100000 in
theorem ai_cd46 : Cond.code (ai_y 46) (ai_cc 46) (ai_mx 46) (ai_ret 46) ∈ ai_wd := ai_mem 427 rfl rfl
set_option maxRecDepth 100000 in
theorem ai_cd47 : Cond.code (ai_y 47) (ai_cc 47) (ai_mx 47) (ai_ret 47) ∈ ai_wd := ai_mem 722 rfl rfl
set_option maxRecDepth 100000 in
theorem ai_cd48 : Cond.code (ai_y 48) (ai_cc 48) (ai_mx 48) (ai_ret 48) ∈ ai_wd := ai_mem 548 rfl rfl
set_option maxRecDepth 100000 in
theorem ai_cd49 : Cond.code (ai_y 49) (ai_cc 49) (ai_mx 49) (ai_ret 49) ∈ ai_wd := ai_mem 462 rfl rfl
set_option maxRecDepth 100000 in
theorem ai_cd50 : Cond.code (ai_y 50) (ai_cc 50) (ai_mx 50) (ai_ret 50) ∈ ai_wd := ai_mem 127 rfl rfl
set_option maxRecDepth 100000 in
theorem ai_cd51 : Cond.code (ai_y 51) (ai_cc 51) (ai_mx 51) (ai_ret 51) ∈ ai_wd := ai_mem 402 rfl rfl
set_option maxRecDepth 100000 in
theorem ai_cd52 : Cond.code (ai_y 52) (ai_cc 52) (ai_mx 52) (ai_ret 52) ∈ ai_wd := ai_mem 417 rfl rfl
set_option maxRecDepth 100000 in
theorem ai_cd53 : Cond.code (ai_y 53) (ai_cc 53) (ai_mx 53) (ai_ret 53) ∈ ai_wd := ai_mem 394 rfl rfl
set_option maxRecDepth 100000 in
theorem ai_cd54 : Cond.code (ai_y 54) (ai_cc 54) (ai_mx 54) (ai_ret 54) ∈ ai_wd := ai_mem 382 rfl rfl
set_option maxRecDepth 100000 in
theorem ai_cd55 : Cond.code (ai_y 55) (ai_cc 55) (ai_mx 55) (ai_ret 55) ∈ ai_wd := ai_mem 357 rfl rfl
set_option maxRecDepth 100000 in
theorem ai_cd56 : Cond.code (ai_y 56) (ai_cc 56) (ai_mx 56) (ai_ret 56) ∈ ai_wd := ai_mem 398 rfl rfl
set_option maxRecDepth 100000 in
theorem ai_cd57 : Cond.code (ai_y 57) (ai_cc 57) (ai_mx 57) (ai_ret 57) ∈ ai_wd := ai_mem 387 rfl rfl
set_option maxRecDepth 100000 in
theorem ai_cd58 : Cond.code (ai_y 58) (ai_cc 58) (ai_mx 58) (ai_ret 58) ∈ ai_wd := ai_mem 376 rfl rfl
set_option maxRecDepth 100000 in
theorem ai_cd59 : Cond.code (ai_y 59) (ai_cc 59) (ai_mx 59) (ai_ret 59) ∈ ai_wd := ai_mem 172 rfl rfl
set_option maxRecDepth 100000 in
theorem ai_cd60 : Cond.code (ai_y 60) (ai_cc 60) (ai_mx 60) (ai_ret 60) ∈ ai_wd := ai_mem 595 rfl rfl
set_option maxRecDepth 100000 in
theorem ai_cd61 : Cond.code (ai_y 61) (ai_cc 61) (ai_mx 61) (ai_ret 61) ∈ ai_wd := ai_mem 675 rfl rfl
set_option maxRecDepth 100000 in
theorem ai_cd62 : Cond.code (ai_y 62) (ai_cc 62) (ai_mx 62) (ai_ret 62) ∈ ai_wd := ai_mem 599 rfl rfl
set_option maxRecDepth 100000 in
theorem ai_cd63 : Cond.code (ai_y 63) (ai_cc 63) (ai_mx 63) (ai_ret 63) ∈ ai_wd := ai_mem 645 rfl rfl
set_option maxRecDepth 100000 in
theorem ai_cd64 : Cond.code (ai_y 64) (ai_cc 64) (ai_mx 64) (ai_ret 64) ∈ ai_wd := ai_mem 631 rfl rfl
set_option maxRecDepth 100000 in
theorem ai_cd65 : Cond.code (ai_y 65) (ai_cc 65) (ai_mx 65) (ai_ret 65) ∈ ai_wd := ai_mem 627 rfl rfl
set_option maxRecDepth 100000 in
theorem ai_cd66 : Cond.code (ai_y 66) (ai_cc 66) (ai_mx 66) (ai_ret 66) ∈ ai_wd := ai_mem 591 rfl rfl
set_option maxRecDepth 100000 in
theorem ai_cd67 : Cond.code (ai_y 67) (ai_cc 67) (ai_mx 67) (ai_ret 67) ∈ ai_wd := ai_mem 607 rfl rfl
set_option maxRecDepth 100000 in
theorem ai_cd68 : Cond.code (ai_y 68) (ai_cc 68) (ai_mx 68) (ai_ret 68) ∈ ai_wd := ai_mem 620 rfl rfl
set_option maxRecDepth 100000 in
theorem ai_cd69 : Cond.code (ai_y 69) (ai_cc 69) (ai_mx 69) (ai_ret 69) ∈ ai_wd := ai_mem 613 rfl rfl
set_option maxRecDepth 100000 in
theorem ai_cd70 : Cond.code (ai_y 70) (ai_cc 70) (ai_mx 70) (ai_ret 70) ∈ ai_wd := ai_mem 90 rfl rfl
set_option maxRecDepth 100000 in
theorem ai_cd71 : Cond.code (ai_y 71) (ai_cc 71) (ai_mx 71) (ai_ret 71) ∈ ai_wd := ai_mem 185 rfl rfl
set_option maxRecDepth 100000 in
theorem ai_cd72 : Cond.code (ai_y 72) (ai_cc 72) (ai_mx 72) (ai_ret 72) ∈ ai_wd := ai_mem 578 rfl rfl
set_option maxRecDepth 100000 in
theorem ai_cd73 : Cond.code (ai_y 73) (ai_cc 73) (ai_mx 73) (ai_ret 73) ∈ ai_wd := ai_mem 315 rfl rfl
set_option maxRecDepth 100000 in
theorem ai_cd74 : Cond.code (ai_y 74) (ai_cc 74) (ai_mx 74) (ai_ret 74) ∈ ai_wd := ai_mem 282 rfl rfl
set_option maxRecDepth 100000 in
theorem ai_cd75 : Cond.code (ai_y 75) (ai_cc 75) (ai_mx 75) (ai_ret 75) ∈ ai_wd := ai_mem 305 rfl rfl
set_option maxRecDepth 100000 in
theorem ai_cd76 : Cond.code (ai_y 76) (ai_cc 76) (ai_mx 76) (ai_ret 76) ∈ ai_wd := ai_mem 322 rfl rfl
set_option maxRecDepth 100000 in
theorem ai_cd77 : Cond.code (ai_y 77) (ai_cc 77) (ai_mx 77) (ai_ret 77) ∈ ai_wd := ai_mem 189 rfl rfl
set_option maxRecDepth 100000 in
theorem ai_cd78 : Cond.code (ai_y 78) (ai_cc 78) (ai_mx 78) (ai_ret 78) ∈ ai_wd := ai_mem 246 rfl rfl
set_option maxRecDepth 100000 in
theorem ai_cd79 : Cond.code (ai_y 79) (ai_cc 79) (ai_mx 79) (ai_ret 79) ∈ ai_wd := ai_mem 242 rfl rfl
set_option maxRecDepth 100000 in
theorem ai_cd80 : Cond.code (ai_y 80) (ai_cc 80) (ai_mx 80) (ai_ret 80) ∈ ai_wd := ai_mem 254 rfl rfl
set_option maxRecDepth 100000 in
theorem ai_cd81 : Cond.code (ai_y 81) (ai_cc 81) (ai_mx 81) (ai_ret 81) ∈ ai_wd := ai_mem 278 rfl rfl
set_option maxRecDepth 100000 in
theorem ai_cd82 : Cond.code (ai_y 82) (ai_cc 82) (ai_mx 82) (ai_ret 82) ∈ ai_wd := ai_mem 238 rfl rfl
set_option maxRecDepth 100000 in
theorem ai_cd83 : Cond.code (ai_y 83) (ai_cc 83) (ai_mx 83) (ai_ret 83) ∈ ai_wd := ai_mem 262 rfl rfl
set_option maxRecDepth 100000 in
theorem ai_cd84 : Cond.code (ai_y 84) (ai_cc 84) (ai_mx 84) (ai_ret 84) ∈ ai_wd := ai_mem 294 rfl rfl
set_option maxRecDepth 100000 in
theorem ai_cd85 : Cond.code (ai_y 85) (ai_cc 85) (ai_mx 85) (ai_ret 85) ∈ ai_wd := ai_mem 266 rfl rfl
set_option maxRecDepth 100000 in
theorem ai_cd86 : Cond.code (ai_y 86) (ai_cc 86) (ai_mx 86) (ai_ret 86) ∈ ai_wd := ai_mem 346 rfl rfl
set_option maxRecDepth 100000 in
theorem ai_cd87 : Cond.code (ai_y 87) (ai_cc 87) (ai_mx 87) (ai_ret 87) ∈ ai_wd := ai_mem 270 rfl rfl
set_option maxRecDepth 100000 in
theorem ai_cd88 : Cond.code (ai_y 88) (ai_cc 88) (ai_mx 88) (ai_ret 88) ∈ ai_wd := ai_mem 326 rfl rfl
set_option maxRecDepth 100000 in
theorem ai_cd89 : Cond.code (ai_y 89) (ai_cc 89) (ai_mx 89) (ai_ret 89) ∈ ai_wd := ai_mem 330 rfl rfl
set_option maxRecDepth 100000 in
theorem ai_cd90 : Cond.code (ai_y 90) (ai_cc 90) (ai_mx 90) (ai_ret 90) ∈ ai_wd := ai_mem 349 rfl rfl
set_option maxRecDepth 100000 in
theorem ai_cd91 : Cond.code (ai_y 91) (ai_cc 91) (ai_mx 91) (ai_ret 91) ∈ ai_wd := ai_mem 300 rfl rfl
set_option maxRecDepth 100000 in
theorem ai_cd92 : Cond.code (ai_y 92) (ai_cc 92) (ai_mx 92) (ai_ret 92) ∈ ai_wd := ai_mem 149 rfl rfl
set_option maxRecDepth 100000 in
theorem ai_cd93 : Cond.code (ai_y 93) (ai_cc 93) (ai_mx 93) (ai_ret 93) ∈ ai_wd := ai_mem 440 rfl rfl
set_option maxRecDepth 100000 in
theorem ai_cd94 : Cond.code (ai_y 94) (ai_cc 94) (ai_mx 94) (ai_ret 94) ∈ ai_wd := ai_mem 509 rfl rfl
set_option maxRecDepth 100000 in
theorem ai_cd95 : Cond.code (ai_y 95) (ai_cc 95) (ai_mx 95) (ai_ret 95) ∈ ai_wd := ai_mem 487 rfl rfl
set_option maxRecDepth 100000 in
theorem ai_cd96 : Cond.code (ai_y 96) (ai_cc 96) (ai_mx 96) (ai_ret 96) ∈ ai_wd := ai_mem 435 rfl rfl
set_option maxRecDepth 100000 in
theorem ai_cd97 : Cond.code (ai_y 97) (ai_cc 97) (ai_mx 97) (ai_ret 97) ∈ ai_wd := ai_mem 491 rfl rfl
set_option maxRecDepth 100000 in
theorem ai_cd98 : Cond.code (ai_y 98) (ai_cc 98) (ai_mx 98) (ai_ret 98) ∈ ai_wd := ai_mem 483 rfl rfl
set_option maxRecDepth 100000 in
theorem ai_cd99 : Cond.code (ai_y 99) (ai_cc 99) (ai_mx 99) (ai_ret 99) ∈ ai_wd := ai_mem 563 rfl rfl
set_option maxRecDepth 100000 in
theorem ai_cd100 : Cond.code (ai_y 100) (ai_cc 100) (ai_mx 100) (ai_ret 100) ∈ ai_wd := ai_mem 570 rfl rfl
set_option maxRecDepth 100000 in
theorem ai_cd101 : Cond.code (ai_y 101) (ai_cc 101) (ai_mx 101) (ai_ret 101) ∈ ai_wd := ai_mem 544 rfl rfl
set_option maxRecDepth 100000 in
theorem ai_cd102 : Cond.code (ai_y 102) (ai_cc 102) (ai_mx 102) (ai_ret 102) ∈ ai_wd := ai_mem 573 rfl rfl
set_option maxRecDepth 100000 in
theorem ai_cd103 : Cond.code (ai_y 103) (ai_cc 103) (ai_mx 103) (ai_ret 103) ∈ ai_wd := ai_mem 525 rfl rfl
set_option maxRecDepth 100000 in
theorem ai_cd104 : Cond.code (ai_y 104) (ai_cc 104) (ai_mx 104) (ai_ret 104) ∈ ai_wd := ai_mem 536 rfl rfl
set_option maxRecDepth 100000 in
theorem ai_cd105 : Cond.code (ai_y 105) (ai_cc 105) (ai_mx 105) (ai_ret 105) ∈ ai_wd := ai_mem 557 rfl rfl
set_option maxRecDepth 100000 in
theorem ai_cd106 : Cond.code (ai_y 106) (ai_cc 106) (ai_mx 106) (ai_ret 106) ∈ ai_wd := ai_mem 529 rfl rfl
set_option maxRecDepth 100000 in
theorem ai_cd107 : Cond.code (ai_y 107) (ai_cc 107) (ai_mx 107) (ai_ret 107) ∈ ai_wd := ai_mem 654 rfl rfl
set_option maxRecDepth 100000 in
theorem ai_cd108 : Cond.code (ai_y 108) (ai_cc 108) (ai_mx 108) (ai_ret 108) ∈ ai_wd := ai_mem 679 rfl rfl
set_option maxRecDepth 100000 in
theorem ai_cd109 : Cond.code (ai_y 109) (ai_cc 109) (ai_mx 109) (ai_ret 109) ∈ ai_wd := ai_mem 671 rfl rfl
set_option maxRecDepth 100000 in
theorem ai_cd110 : Cond.code (ai_y 110) (ai_cc 110) (ai_mx 110) (ai_ret 110) ∈ ai_wd := ai_mem 666 rfl rfl
set_option maxRecDepth 100000 in
theorem ai_cd111 : Cond.code (ai_y 111) (ai_cc 111) (ai_mx 111) (ai_ret 111) ∈ ai_wd := ai_mem 689 rfl rfl
set_option maxRecDepth 100000 in
theorem ai_cd112 : Cond.code (ai_y 112) (ai_cc 112) (ai_mx 112) (ai_ret 112) ∈ ai_wd := ai_mem 685 rfl rfl
set_option maxRecDepth 100000 in
theorem ai_cd113 : Cond.code (ai_y 113) (ai_cc 113) (ai_mx 113) (ai_ret 113) ∈ ai_wd := ai_mem 707 rfl rfl
set_option maxRecDepth 100000 in
theorem ai_cd114 : Cond.code (ai_y 114) (ai_cc 114) (ai_mx 114) (ai_ret 114) ∈ ai_wd := ai_mem 694 rfl rfl
set_option maxRecDepth 100000 in
theorem ai_cd115 : Cond.code (ai_y 115) (ai_cc 115) (ai_mx 115) (ai_ret 115) ∈ ai_wd := ai_mem 712 rfl rfl
set_option maxRecDepth 100000 in
theorem ai_cd116 : Cond.code (ai_y 116) (ai_cc 116) (ai_mx 116) (ai_ret 116) ∈ ai_wd := ai_mem 698 rfl rfl
set_option maxRecDepth 100000 in
theorem ai_cd117 : Cond.code (ai_y 117) (ai_cc 117) (ai_mx 117) (ai_ret 117) ∈ ai_wd := ai_mem 703 rfl rfl
set_option maxRecDepth 100000 in
theorem ai_cd118 : Cond.code (ai_y 118) (ai_cc 118) (ai_mx 118) (ai_ret 118) ∈ ai_wd := ai_mem 739 rfl rfl
set_option maxRecDepth 100000 in
theorem ai_cd119 : Cond.code (ai_y 119) (ai_cc 119) (ai_mx 119) (ai_ret 119) ∈ ai_wd := ai_mem 905 rfl rfl
set_option maxRecDepth 100000 in
theorem ai_cd120 : Cond.code (ai_y 120) (ai_cc 120) (ai_mx 120) (ai_ret 120) ∈ ai_wd := ai_mem 932 rfl rfl
set_option maxRecDepth 100000 in
theorem ai_cd121 : Cond.code (ai_y 121) (ai_cc 121) (ai_mx 121) (ai_ret 121) ∈ ai_wd := ai_mem 889 rfl rfl
set_option maxRecDepth 100000 in
theorem ai_cd122 : Cond.code (ai_y 122) (ai_cc 122) (ai_mx 122) (ai_ret 122) ∈ ai_wd := ai_mem 977 rfl rfl
set_option maxRecDepth 100000 in
theorem ai_cd123 : Cond.code (ai_y 123) (ai_cc 123) (ai_mx 123) (ai_ret 123) ∈ ai_wd := ai_mem 989 rfl rfl
set_option maxRecDepth 100000 in
theorem ai_cd124 : Cond.code (ai_y 124) (ai_cc 124) (ai_mx 124) (ai_ret 124) ∈ ai_wd := ai_mem 1037 rfl rfl
set_option maxRecDepth 100000 in
theorem ai_cd125 : Cond.code (ai_y 125) (ai_cc 125) (ai_mx 125) (ai_ret 125) ∈ ai_wd := ai_mem 948 rfl rfl
set_option maxRecDepth 100000 in
theorem ai_cd126 : Cond.code (ai_y 126) (ai_cc 126) (ai_mx 126) (ai_ret 126) ∈ ai_wd := ai_mem 744 rfl rfl
set_option maxRecDepth 100000 in
theorem ai_cd127 : Cond.code (ai_y 127) (ai_cc 127) (ai_mx 127) (ai_ret 127) ∈ ai_wd := ai_mem 969 rfl rfl
set_option maxRecDepth 100000 in
theorem ai_cd128 : Cond.code (ai_y 128) (ai_cc 128) (ai_mx 128) (ai_ret 128) ∈ ai_wd := ai_mem 869 rfl rfl
set_option maxRecDepth 100000 in
theorem ai_cd129 : Cond.code (ai_y 129) (ai_cc 129) (ai_mx 129) (ai_ret 129) ∈ ai_wd := ai_mem 993 rfl rfl
set_option maxRecDepth 100000 in
theorem ai_cd130 : Cond.code (ai_y 130) (ai_cc 130) (ai_mx 130) (ai_ret 130) ∈ ai_wd := ai_mem 1033 rfl rfl
set_option maxRecDepth 100000 in
theorem ai_cd131 : Cond.code (ai_y 131) (ai_cc 131) (ai_mx 131) (ai_ret 131) ∈ ai_wd := ai_mem 1041 rfl rfl
set_option maxRecDepth 100000 in
theorem ai_cd132 : Cond.code (ai_y 132) (ai_cc 132) (ai_mx 132) (ai_ret 132) ∈ ai_wd := ai_mem 893 rfl rfl
set_option maxRecDepth 100000 in
theorem ai_cd133 : Cond.code (ai_y 133) (ai_cc 133) (ai_mx 133) (ai_ret 133) ∈ ai_wd := ai_mem 897 rfl rfl
set_option maxRecDepth 100000 in
theorem ai_cd134 : Cond.code (ai_y 134) (ai_cc 134) (ai_mx 134) (ai_ret 134) ∈ ai_wd := ai_mem 901 rfl rfl
set_option maxRecDepth 100000 in
theorem ai_cd135 : Cond.code (ai_y 135) (ai_cc 135) (ai_mx 135) (ai_ret 135) ∈ ai_wd := ai_mem 1010 rfl rfl
set_option maxRecDepth 100000 in
theorem ai_cd136 : Cond.code (ai_y 136) (ai_cc 136) (ai_mx 136) (ai_ret 136) ∈ ai_wd := ai_mem 952 rfl rfl
set_option maxRecDepth 100000 in
theorem ai_cd137 : Cond.code (ai_y 137) (ai_cc 137) (ai_mx 137) (ai_ret 137) ∈ ai_wd := ai_mem 1029 rfl rfl
set_option maxRecDepth 100000 in
theorem ai_cd138 : Cond.code (ai_y 138) (ai_cc 138) (ai_mx 138) (ai_ret 138) ∈ ai_wd := ai_mem 944 rfl rfl
set_option maxRecDepth 100000 in
theorem ai_cd139 : Cond.code (ai_y 139) (ai_cc 139) (ai_mx 139) (ai_ret 139) ∈ ai_wd := ai_mem 981 rfl rfl
set_option maxRecDepth 100000 in
theorem ai_cd140 : Cond.code (ai_y 140) (ai_cc 140) (ai_mx 140) (ai_ret 140) ∈ ai_wd := ai_mem 1062 rfl rfl
set_option maxRecDepth 100000 in
theorem ai_cd141 : Cond.code (ai_y 141) (ai_cc 141) (ai_mx 141) (ai_ret 141) ∈ ai_wd := ai_mem 1066 rfl rfl
set_option maxRecDepth 100000 in
theorem ai_cd142 : Cond.code (ai_y 142) (ai_cc 142) (ai_mx 142) (ai_ret 142) ∈ ai_wd := ai_mem 997 rfl rfl
set_option maxRecDepth 100000 in
theorem ai_cd143 : Cond.code (ai_y 143) (ai_cc 143) (ai_mx 143) (ai_ret 143) ∈ ai_wd := ai_mem 848 rfl rfl
set_option maxRecDepth 100000 in
theorem ai_cd144 : Cond.code (ai_y 144) (ai_cc 144) (ai_mx 144) (ai_ret 144) ∈ ai_wd := ai_mem 839 rfl rfl
set_option maxRecDepth 100000 in
theorem ai_cd145 : Cond.code (ai_y 145) (ai_cc 145) (ai_mx 145) (ai_ret 145) ∈ ai_wd := ai_mem 881 rfl rfl
set_option maxRecDepth 100000 in
theorem ai_cd146 : Cond.code (ai_y 146) (ai_cc 146) (ai_mx 146) (ai_ret 146) ∈ ai_wd := ai_mem 917 rfl rfl
set_option maxRecDepth 100000 in
theorem ai_cd147 : Cond.code (ai_y 147) (ai_cc 147) (ai_mx 147) (ai_ret 147) ∈ ai_wd := ai_mem 956 rfl rfl
set_option maxRecDepth 100000 in
theorem ai_cd148 : Cond.code (ai_y 148) (ai_cc 148) (ai_mx 148) (ai_ret 148) ∈ ai_wd := ai_mem 913 rfl rfl
set_option maxRecDepth 100000 in
theorem ai_cd149 : Cond.code (ai_y 149) (ai_cc 149) (ai_mx 149) (ai_ret 149) ∈ ai_wd := ai_mem 856 rfl rfl
set_option maxRecDepth 100000 in
theorem ai_cd150 : Cond.code (ai_y 150) (ai_cc 150) (ai_mx 150) (ai_ret 150) ∈ ai_wd := ai_mem 843 rfl rfl
set_option maxRecDepth 100000 in
theorem ai_cd151 : Cond.code (ai_y 151) (ai_cc 151) (ai_mx 151) (ai_ret 151) ∈ ai_wd := ai_mem 836 rfl rfl
set_option maxRecDepth 100000 in
theorem ai_cd152 : Cond.code (ai_y 152) (ai_cc 152) (ai_mx 152) (ai_ret 152) ∈ ai_wd := ai_mem 940 rfl rfl
set_option maxRecDepth 100000 in
theorem ai_cd153 : Cond.code (ai_y 153) (ai_cc 153) (ai_mx 153) (ai_ret 153) ∈ ai_wd := ai_mem 1049 rfl rfl
set_option maxRecDepth 100000 in
theorem ai_cd154 : Cond.code (ai_y 154) (ai_cc 154) (ai_mx 154) (ai_ret 154) ∈ ai_wd := ai_mem 1057 rfl rfl
set_option maxRecDepth 100000 in
theorem ai_cd155 : Cond.code (ai_y 155) (ai_cc 155) (ai_mx 155) (ai_ret 155) ∈ ai_wd := ai_mem 824 rfl rfl
set_option maxRecDepth 100000 in
theorem ai_cd156 : Cond.code (ai_y 156) (ai_cc 156) (ai_mx 156) (ai_ret 156) ∈ ai_wd := ai_mem 973 rfl rfl
set_option maxRecDepth 100000 in
theorem ai_cd157 : Cond.code (ai_y 157) (ai_cc 157) (ai_mx 157) (ai_ret 157) ∈ ai_wd := ai_mem 985 rfl rfl
set_option maxRecDepth 100000 in
theorem ai_cd158 : Cond.code (ai_y 158) (ai_cc 158) (ai_mx 158) (ai_ret 158) ∈ ai_wd := ai_mem 873 rfl rfl
set_option maxRecDepth 100000 in
theorem ai_cd159 : Cond.code (ai_y 159) (ai_cc 159) (ai_mx 159) (ai_ret 159) ∈ ai_wd := ai_mem 828 rfl rfl
set_option maxRecDepth 100000 in
theorem ai_cd160 : Cond.code (ai_y 160) (ai_cc 160) (ai_mx 160) (ai_ret 160) ∈ ai_wd := ai_mem 960 rfl rfl
set_option maxRecDepth 100000 in
theorem ai_cd161 : Cond.code (ai_y 161) (ai_cc 161) (ai_mx 161) (ai_ret 161) ∈ ai_wd := ai_mem 1045 rfl rfl
set_option maxRecDepth 100000 in
theorem ai_cd162 : Cond.code (ai_y 162) (ai_cc 162) (ai_mx 162) (ai_ret 162) ∈ ai_wd := ai_mem 1053 rfl rfl
set_option maxRecDepth 100000 in
theorem ai_cd163 : Cond.code (ai_y 163) (ai_cc 163) (ai_mx 163) (ai_ret 163) ∈ ai_wd := ai_mem 1002 rfl rfl
set_option maxRecDepth 100000 in
theorem ai_cd164 : Cond.code (ai_y 164) (ai_cc 164) (ai_mx 164) (ai_ret 164) ∈ ai_wd := ai_mem 852 rfl rfl
set_option maxRecDepth 100000 in
theorem ai_cd165 : Cond.code (ai_y 165) (ai_cc 165) (ai_mx 165) (ai_ret 165) ∈ ai_wd := ai_mem 877 rfl rfl
set_option maxRecDepth 100000 in
theorem ai_cd166 : Cond.code (ai_y 166) (ai_cc 166) (ai_mx 166) (ai_ret 166) ∈ ai_wd := ai_mem 885 rfl rfl
set_option maxRecDepth 100000 in
theorem ai_cd167 : Cond.code (ai_y 167) (ai_cc 167) (ai_mx 167) (ai_ret 167) ∈ ai_wd := ai_mem 936 rfl rfl
set_option maxRecDepth 100000 in
theorem ai_cd168 : Cond.code (ai_y 168) (ai_cc 168) (ai_mx 168) (ai_ret 168) ∈ ai_wd := ai_mem 924 rfl rfl
set_option maxRecDepth 100000 in
theorem ai_cd169 : Cond.code (ai_y 169) (ai_cc 169) (ai_mx 169) (ai_ret 169) ∈ ai_wd := ai_mem 832 rfl rfl
set_option maxRecDepth 100000 in
theorem ai_cd170 : Cond.code (ai_y 170) (ai_cc 170) (ai_mx 170) (ai_ret 170) ∈ ai_wd := ai_mem 865 rfl rfl
set_option maxRecDepth 100000 in
theorem ai_cd171 : Cond.code (ai_y 171) (ai_cc 171) (ai_mx 171) (ai_ret 171) ∈ ai_wd := ai_mem 928 rfl rfl
set_option maxRecDepth 100000 in
theorem ai_cd172 : Cond.code (ai_y 172) (ai_cc 172) (ai_mx 172) (ai_ret 172) ∈ ai_wd := ai_mem 1006 rfl rfl
set_option maxRecDepth 100000 in
theorem ai_cd173 : Cond.code (ai_y 173) (ai_cc 173) (ai_mx 173) (ai_ret 173) ∈ ai_wd := ai_mem 909 rfl rfl
set_option maxRecDepth 100000 in
theorem ai_cd174 : Cond.code (ai_y 174) (ai_cc 174) (ai_mx 174) (ai_ret 174) ∈ ai_wd := ai_mem 921 rfl rfl
set_option maxRecDepth 100000 in
theorem ai_cd175 : Cond.code (ai_y 175) (ai_cc 175) (ai_mx 175) (ai_ret 175) ∈ ai_wd := ai_mem 965 rfl rfl
set_option maxRecDepth 100000 in
theorem ai_cd176 : Cond.code (ai_y 176) (ai_cc 176) (ai_mx 176) (ai_ret 176) ∈ ai_wd := ai_mem 860 rfl rfl
set_option maxRecDepth 100000 in
theorem ai_cd177 : Cond.code (ai_y 177) (ai_cc 177) (ai_mx 177) (ai_ret 177) ∈ ai_wd := ai_mem 1018 rfl rfl
set_option maxRecDepth 100000 in
theorem ai_cd178 : Cond.code (ai_y 178) (ai_cc 178) (ai_mx 178) (ai_ret 178) ∈ ai_wd := ai_mem 1014 rfl rfl
set_option maxRecDepth 100000 in
theorem ai_cd179 : Cond.code (ai_y 179) (ai_cc 179) (ai_mx 179) (ai_ret 179) ∈ ai_wd := ai_mem 1022 rfl rfl
set_option maxRecDepth 100000 in
theorem ai_cd180 : Cond.code (ai_y 180) (ai_cc 180) (ai_mx 180) (ai_ret 180) ∈ ai_wd := ai_mem 94 rfl rfl
set_option maxRecDepth 100000 in
theorem ai_cd181 : Cond.code (ai_y 181) (ai_cc 181) (ai_mx 181) (ai_ret 181) ∈ ai_wd := ai_mem 192 rfl rfl
set_option maxRecDepth 100000 in
theorem ai_cd182 : Cond.code (ai_y 182) (ai_cc 182) (ai_mx 182) (ai_ret 182) ∈ ai_wd := ai_mem 195 rfl rfl
def ai_Cd (a : Nat) : Prop := Cond.code (ai_y a) (ai_cc a) (ai_mx a) (ai_ret a) ∈ ai_wd
def ai_cal : List Nat := [0, 1, 2, 3, 4, 5, 6, 7, 8, 9, 10, 11, 12, 13, 14, 15, 16, 17, 18, 19, 20, 21, 22, 23, 24, 25, 26, 27, 28, 29, 30, 31, 32, 33, 34, 35, 36, 37, 38, 39, 40, 41, 42, 43, 44, 45, 46, 47, 48, 49, 50, 51, 52, 53, 54, 55, 56, 57, 58, 59, 60, 61, 62, 63, 64, 65, 66, 67, 68, 69, 70, 71, 72, 73, 74, 75, 76, 77, 78, 79, 80, 81, 82, 83, 84, 85, 86, 87, 88, 89, 90, 91, 92, 93, 94, 95, 96, 97, 98, 99, 100, 101, 102, 103, 104, 105, 106, 107, 108, 109, 110, 111, 112, 113, 114, 115, 116, 117, 118, 119, 120, 121, 122, 123, 124, 125, 126, 127, 128, 129, 130, 131, 132, 133, 134, 135, 136, 137, 138, 139, 140, 141, 142, 143, 144, 145, 146, 147, 148, 149, 150, 151, 152, 153, 154, 155, 156, 157, 158, 159, 160, 161, 162, 163, 164, 165, 166, 167, 168, 169, 170, 171, 172, 173, 174, 175, 176, 177, 178, 179, 180, 181, 182]
set_option maxRecDepth 100000 in
theorem ai_cal_ok : ∀ a ∈ ai_cal, ai_Cd a := List.forall_mem_cons.mpr ⟨ai_cd0, List.forall_mem_cons.mpr ⟨ai_cd1, List.forall_mem_cons.mpr ⟨ai_cd2, List.forall_mem_cons.mpr ⟨ai_cd3, List.forall_mem_cons.mpr ⟨ai_cd4, List.forall_mem_cons.mpr ⟨ai_cd5, List.forall_mem_cons.mpr ⟨ai_cd6, List.forall_mem_cons.mpr ⟨ai_cd7, List.forall_mem_cons.mpr ⟨ai_cd8, List.forall_mem_cons.mpr ⟨ai_cd9, List.forall_mem_cons.mpr ⟨ai_cd10, List.forall_mem_cons.mpr ⟨ai_cd11, List.forall_mem_cons.mpr ⟨ai_cd12, List.forall_mem_cons.mpr ⟨ai_cd13, List.forall_mem_cons.mpr ⟨ai_cd14, List.forall_mem_cons.mpr ⟨ai_cd15, List.forall_mem_cons.mpr ⟨ai_cd16, List.forall_mem_cons.mpr ⟨ai_cd17, List.forall_mem_cons.mpr ⟨ai_cd18, List.forall_mem_cons.mpr ⟨ai_cd19, List.forall_mem_cons.mpr ⟨ai_cd20, List.forall_mem_cons.mpr ⟨ai_cd21, List.forall_mem_cons.mpr ⟨ai_cd22, List.forall_mem_cons.mpr ⟨ai_cd23, List.forall_mem_cons.mpr ⟨ai_cd24, List.forall_mem_cons.mpr ⟨ai_cd25, List.forall_mem_cons.mpr ⟨ai_cd26, List.forall_mem_cons.mpr ⟨ai_cd27, List.forall_mem_cons.mpr ⟨ai_cd28, List.forall_mem_cons.mpr ⟨ai_cd29, List.forall_mem_cons.mpr ⟨ai_cd30, List.forall_mem_cons.mpr ⟨ai_cd31, List.forall_mem_cons.mpr ⟨ai_cd32, List.forall_mem_cons.mpr ⟨ai_cd33, List.forall_mem_cons.mpr ⟨ai_cd34, List.forall_mem_cons.mpr ⟨ai_cd35, List.forall_mem_cons.mpr ⟨ai_cd36, List.forall_mem_cons.mpr ⟨ai_cd37, List.forall_mem_cons.mpr ⟨ai_cd38, List.forall_mem_cons.mpr ⟨ai_cd39, List.forall_mem_cons.mpr ⟨ai_cd40, List.forall_mem_cons.mpr ⟨ai_cd41, List.forall_mem_cons.mpr ⟨ai_cd42, List.forall_mem_cons.mpr ⟨ai_cd43, List.forall_mem_cons.mpr ⟨ai_cd44, List.forall_mem_cons.mpr ⟨ai_cd45, List.forall_mem_cons.mpr ⟨ai_cd46, List.forall_mem_cons.mpr ⟨ai_cd47, List.forall_mem_cons.mpr ⟨ai_cd48, List.forall_mem_cons.mpr ⟨ai_cd49, List.forall_mem_cons.mpr ⟨ai_cd50, List.forall_mem_cons.mpr ⟨ai_cd51, List.forall_mem_cons.mpr ⟨ai_cd52, List.forall_mem_cons.mpr ⟨ai_cd53, List.forall_mem_cons.mpr ⟨ai_cd54, List.forall_mem_cons.mpr ⟨ai_cd55, List.forall_mem_cons.mpr ⟨ai_cd56, List.forall_mem_cons.mpr ⟨ai_cd57, List.forall_mem_cons.mpr ⟨ai_cd58, List.forall_mem_cons.mpr ⟨ai_cd59, List.forall_mem_cons.mpr ⟨ai_cd60, List.forall_mem_cons.mpr ⟨ai_cd61, List.forall_mem_cons.mpr ⟨ai_cd62, List.forall_mem_cons.mpr ⟨ai_cd63, List.forall_mem_cons.mpr ⟨ai_cd64, List.forall_mem_cons.mpr ⟨ai_cd65, List.forall_mem_cons.mpr ⟨ai_cd66, List.forall_mem_cons.mpr ⟨ai_cd67, List.forall_mem_cons.mpr ⟨ai_cd68, List.forall_mem_cons.mpr ⟨ai_cd69, List.forall_mem_cons.mpr ⟨ai_cd70, List.forall_mem_cons.mpr ⟨ai_cd71, List.forall_mem_cons.mpr ⟨ai_cd72, List.forall_mem_cons.mpr ⟨ai_cd73, List.forall_mem_cons.mpr ⟨ai_cd74, List.forall_mem_cons.mpr ⟨ai_cd75, List.forall_mem_cons.mpr ⟨ai_cd76, List.forall_mem_cons.mpr ⟨ai_cd77, List.forall_mem_cons.mpr ⟨ai_cd78, List.forall_mem_cons.mpr ⟨ai_cd79, List.forall_mem_cons.mpr ⟨ai_cd80, List.forall_mem_cons.mpr ⟨ai_cd81, List.forall_mem_cons.mpr ⟨ai_cd82, List.forall_mem_cons.mpr ⟨ai_cd83, List.forall_mem_cons.mpr ⟨ai_cd84, List.forall_mem_cons.mpr ⟨ai_cd85, List.forall_mem_cons.mpr ⟨ai_cd86, List.forall_mem_cons.mpr ⟨ai_cd87, List.forall_mem_cons.mpr ⟨ai_cd88, List.forall_mem_cons.mpr ⟨ai_cd89, List.forall_mem_cons.mpr ⟨ai_cd90, List.forall_mem_cons.mpr ⟨ai_cd91, List.forall_mem_cons.mpr ⟨ai_cd92, List.forall_mem_cons.mpr ⟨ai_cd93, List.forall_mem_cons.mpr ⟨ai_cd94, List.forall_mem_cons.mpr ⟨ai_cd95, List.forall_mem_cons.mpr ⟨ai_cd96, List.forall_mem_cons.mpr ⟨ai_cd97, List.forall_mem_cons.mpr ⟨ai_cd98, List.forall_mem_cons.mpr ⟨ai_cd99, List.forall_mem_cons.mpr ⟨ai_cd100, List.forall_mem_cons.mpr ⟨ai_cd101, List.forall_mem_cons.mpr ⟨ai_cd102, List.forall_mem_cons.mpr ⟨ai_cd103, List.forall_mem_cons.mpr ⟨ai_cd104, List.forall_mem_cons.mpr ⟨ai_cd105, List.forall_mem_cons.mpr ⟨ai_cd106, List.forall_mem_cons.mpr ⟨ai_cd107, List.forall_mem_cons.mpr ⟨ai_cd108, List.forall_mem_cons.mpr ⟨ai_cd109, List.forall_mem_cons.mpr ⟨ai_cd110, List.forall_mem_cons.mpr ⟨ai_cd111, List.forall_mem_cons.mpr ⟨ai_cd112, List.forall_mem_cons.mpr ⟨ai_cd113, List.forall_mem_cons.mpr ⟨ai_cd114, List.forall_mem_cons.mpr ⟨ai_cd115, List.forall_mem_cons.mpr ⟨ai_cd116, List.forall_mem_cons.mpr ⟨ai_cd117, List.forall_mem_cons.mpr ⟨ai_cd118, List.forall_mem_cons.mpr ⟨ai_cd119, List.forall_mem_cons.mpr ⟨ai_cd120, List.forall_mem_cons.mpr ⟨ai_cd121, List.forall_mem_cons.mpr ⟨ai_cd122, List.forall_mem_cons.mpr ⟨ai_cd123, List.forall_mem_cons.mpr ⟨ai_cd124, List.forall_mem_cons.mpr ⟨ai_cd125, List.forall_mem_cons.mpr ⟨ai_cd126, List.forall_mem_cons.mpr ⟨ai_cd127, List.forall_mem_cons.mpr ⟨ai_cd128, List.forall_mem_cons.mpr ⟨ai_cd129, List.forall_mem_cons.mpr ⟨ai_cd130, List.forall_mem_cons.mpr ⟨ai_cd131, List.forall_mem_cons.mpr ⟨ai_cd132, List.forall_mem_cons.mpr ⟨ai_cd133, List.forall_mem_cons.mpr ⟨ai_cd134, List.forall_mem_cons.mpr ⟨ai_cd135, List.forall_mem_cons.mpr ⟨ai_cd136, List.forall_mem_cons.mpr ⟨ai_cd137, List.forall_mem_cons.mpr ⟨ai_cd138, List.forall_mem_cons.mpr ⟨ai_cd139, List.forall_mem_cons.mpr ⟨ai_cd140, List.forall_mem_cons.mpr ⟨ai_cd141, List.forall_mem_cons.mpr ⟨ai_cd142, List.forall_mem_cons.mpr ⟨ai_cd143, List.forall_mem_cons.mpr ⟨ai_cd144, List.forall_mem_cons.mpr ⟨ai_cd145, List.forall_mem_cons.mpr ⟨ai_cd146, List.forall_mem_cons.mpr ⟨ai_cd147, List.forall_mem_cons.mpr ⟨ai_cd148, List.forall_mem_cons.mpr ⟨ai_cd149, List.forall_mem_cons.mpr ⟨ai_cd150, List.forall_mem_cons.mpr ⟨ai_cd151, List.forall_mem_cons.mpr ⟨ai_cd152, List.forall_mem_cons.mpr ⟨ai_cd153, List.forall_mem_cons.mpr ⟨ai_cd154, List.forall_mem_cons.mpr ⟨ai_cd155, List.forall_mem_cons.mpr ⟨ai_cd156, List.forall_mem_cons.mpr ⟨ai_cd157, List.forall_mem_cons.mpr ⟨ai_cd158, List.forall_mem_cons.mpr ⟨ai_cd159, List.forall_mem_cons.mpr ⟨ai_cd160, List.forall_mem_cons.mpr ⟨ai_cd161, List.forall_mem_cons.mpr ⟨ai_cd162, List.forall_mem_cons.mpr ⟨ai_cd163, List.forall_mem_cons.mpr ⟨ai_cd164, List.forall_mem_cons.mpr ⟨ai_cd165, List.forall_mem_cons.mpr ⟨ai_cd166, List.forall_mem_cons.mpr ⟨ai_cd167, List.forall_mem_cons.mpr ⟨ai_cd168, List.forall_mem_cons.mpr ⟨ai_cd169, List.forall_mem_cons.mpr ⟨ai_cd170, List.forall_mem_cons.mpr ⟨ai_cd171, List.forall_mem_cons.mpr ⟨ai_cd172, List.forall_mem_cons.mpr ⟨ai_cd173, List.forall_mem_cons.mpr ⟨ai_cd174, List.forall_mem_cons.mpr ⟨ai_cd175, List.forall_mem_cons.mpr ⟨ai_cd176, List.forall_mem_cons.mpr ⟨ai_cd177, List.forall_mem_cons.mpr ⟨ai_cd178, List.forall_mem_cons.mpr ⟨ai_cd179, List.forall_mem_cons.mpr ⟨ai_cd180, List.forall_mem_cons.mpr ⟨ai_cd181, List.forall_mem_cons.mpr ⟨ai_cd182, fun _ h => absurd h List.not_mem_nil⟩⟩⟩⟩⟩⟩⟩⟩⟩⟩⟩⟩⟩⟩⟩⟩⟩⟩⟩⟩⟩⟩⟩⟩⟩⟩⟩⟩⟩⟩⟩⟩⟩⟩⟩⟩⟩⟩⟩⟩⟩⟩⟩⟩⟩⟩⟩⟩⟩⟩⟩⟩⟩⟩⟩⟩⟩⟩⟩⟩⟩⟩⟩⟩⟩⟩⟩⟩⟩⟩⟩⟩⟩⟩⟩⟩⟩⟩⟩⟩⟩⟩⟩⟩⟩⟩⟩⟩⟩⟩⟩⟩⟩⟩⟩⟩⟩⟩⟩⟩⟩⟩⟩⟩⟩⟩⟩⟩⟩⟩⟩⟩⟩⟩⟩⟩⟩⟩⟩⟩⟩⟩⟩⟩⟩⟩⟩⟩⟩⟩⟩⟩⟩⟩⟩⟩⟩⟩⟩⟩⟩⟩⟩⟩⟩⟩⟩⟩⟩⟩⟩⟩⟩⟩⟩⟩⟩⟩⟩⟩⟩⟩⟩⟩⟩⟩⟩⟩⟩⟩⟩⟩⟩⟩⟩⟩⟩⟩⟩⟩⟩⟩⟩
def ai_il : List (String × Nat) := [("GraphDeltas", 66), ("GraphDeltas$Delta", 69), ("GraphDeltas$Difference", 70), ("GraphDeltas$Draft", 72), ("GraphDeltas$Graph", 67), ("GraphDeltas$Merger", 71), ("GraphDeltas$Patch", 76), ("GraphDeltas$Reader", 77), ("GraphDeltasModel", 73), ("java/util/Arrays", 68)]
set_option maxRecDepth 100000 in
theorem ai_il_ok : ∀ e ∈ ai_il, Cond.initialized e.1 ∈ ai_wd := by
  have h : (ai_il.all fun e => decide (lw_tbl[e.2]? = some (Cond.initialized e.1)) && goodWord (Cond.initialized e.1)) = true := by decide +kernel
  intro e he
  have h2 := List.all_eq_true.mp h e he
  simp only [Bool.and_eq_true, decide_eq_true_eq] at h2
  exact ai_mem _ h2.1 h2.2
set_option maxRecDepth 100000 in
theorem ai_w_ai : Cond.arrayClass .int ∈ ai_wd := ai_mem 108 (by decide +kernel) rfl
set_option maxRecDepth 100000 in
theorem ai_w_az : Cond.arrayClass .boolean ∈ ai_wd := ai_mem 819 (by decide +kernel) rfl
set_option maxRecDepth 100000 in
theorem ai_w_aj : Cond.arrayClass .long ∈ ai_wd := ai_mem 820 (by decide +kernel) rfl
set_option maxRecDepth 100000 in
theorem ai_w_oi : Cond.instanceMethod objectInit ∈ ai_wd := ai_mem 84 (by decide +kernel) rfl
set_option maxRecDepth 100000 in
theorem ai_w_oc : Cond.code objectInit ⟨#[0xb1]⟩ 1 none ∈ ai_wd := ai_mem 85 rfl rfl
set_option maxRecDepth 100000 in
theorem ai_w_ms : Cond.static Lib.Math.max.name ∈ ai_wd := ai_mem 389 (by decide +kernel) rfl
set_option maxRecDepth 100000 in
theorem ai_w_mi : Cond.initialized "java/lang/Math" ∈ ai_wd := ai_mem 75 (by decide +kernel) rfl
set_option maxRecDepth 100000 in
theorem ai_w_mc : Cond.code Lib.Math.max.name Lib.Math.max.code 2 (some .int) ∈ ai_wd := ai_mem 390 rfl rfl
set_option maxRecDepth 100000 in
theorem ai_w_cn : Cond.native arraycopyName ∈ ai_wd := ai_mem 318 (by decide +kernel) rfl
set_option maxRecDepth 100000 in
theorem ai_w_cs : Cond.static arraycopyName ∈ ai_wd := ai_mem 317 (by decide +kernel) rfl
set_option maxRecDepth 100000 in
theorem ai_w_ci : Cond.initialized "java/lang/System" ∈ ai_wd := ai_mem 74 (by decide +kernel) rfl
