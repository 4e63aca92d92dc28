set_option maxRecDepth 20000 in theorem iGraphDeltasModel_findConflicts_144 : ai_find (ai_tab mGraphDeltasModel_findConflicts) 144 = some (.iadd, 145, 0, 0, 0, .null, []) := rfl
set_option maxRecDepth 20000 in theorem iGraphDeltasModel_findConflicts_145 : ai_find (ai_tab mGraphDeltasModel_findConflicts) 145 = some (.putfield 148, 148, 7, 16, 0, .null, []) := rfl
set_option maxRecDepth 20000 in theorem iGraphDeltasModel_findConflicts_148 : ai_find (ai_tab mGraphDeltasModel_findConflicts) 148 = some (.iinc 1 1, 151, 1, 0, 0, .int (nI 1), []) := rfl
set_option maxRecDepth 20000 in theorem iGraphDeltasModel_findConflicts_151 : ai_find (ai_tab mGraphDeltasModel_findConflicts) 151 = some (.goto (-144), 154, 7, 0, 0, .null, []) := rfl
set_option maxRecDepth 20000 in theorem iGraphDeltasModel_findConflicts_154 : ai_find (ai_tab mGraphDeltasModel_findConflicts) 154 = some (.return_, 155, 0, 0, 0, .null, []) := rfl
theorem iGraphDeltasModel_fits_0 : ai_find (ai_tab mGraphDeltasModel_fits) 0 = some (.iconst 1, 1, 0, 0, 0, .int (nI 1), []) := rfl
theorem iGraphDeltasModel_fits_1 : ai_find (ai_tab mGraphDeltasModel_fits) 1 = some (.istore_n 2, 2, 2, 0, 0, .null, []) := rfl
theorem iGraphDeltasModel_fits_2 : ai_find (ai_tab mGraphDeltasModel_fits) 2 = some (.iconst 0, 3, 0, 0, 0, .int (nI 0), []) := rfl
theorem iGraphDeltasModel_fits_3 : ai_find (ai_tab mGraphDeltasModel_fits) 3 = some (.istore_n 3, 4, 3, 0, 0, .null, []) := rfl
theorem iGraphDeltasModel_fits_4 : ai_find (ai_tab mGraphDeltasModel_fits) 4 = some (.iload_n 3, 5, 3, 0, 0, .null, []) := rfl
theorem iGraphDeltasModel_fits_5 : ai_find (ai_tab mGraphDeltasModel_fits) 5 = some (.aload_n 0, 6, 0, 0, 0, .null, []) := rfl
theorem iGraphDeltasModel_fits_6 : ai_find (ai_tab mGraphDeltasModel_fits) 6 = some (.getfield 31, 9, 7, 7, 0, .null, []) := rfl
theorem iGraphDeltasModel_fits_9 : ai_find (ai_tab mGraphDeltasModel_fits) 9 = some (.iconst 0, 10, 0, 0, 0, .int (nI 0), []) := rfl
theorem iGraphDeltasModel_fits_10 : ai_find (ai_tab mGraphDeltasModel_fits) 10 = some (.iaload, 11, 0, 0, 0, .null, []) := rfl
theorem iGraphDeltasModel_fits_11 : ai_find (ai_tab mGraphDeltasModel_fits) 11 = some (.if_icmp .ge 28, 14, 39, 0, 0, .null, []) := rfl
theorem iGraphDeltasModel_fits_14 : ai_find (ai_tab mGraphDeltasModel_fits) 14 = some (.iload_n 2, 15, 2, 0, 0, .null, []) := rfl
theorem iGraphDeltasModel_fits_15 : ai_find (ai_tab mGraphDeltasModel_fits) 15 = some (.ifCond .eq 16, 18, 31, 0, 0, .null, []) := rfl
theorem iGraphDeltasModel_fits_18 : ai_find (ai_tab mGraphDeltasModel_fits) 18 = some (.aload_n 0, 19, 0, 0, 0, .null, []) := rfl
theorem iGraphDeltasModel_fits_19 : ai_find (ai_tab mGraphDeltasModel_fits) 19 = some (.iload_n 1, 20, 1, 0, 0, .null, []) := rfl
theorem iGraphDeltasModel_fits_20 : ai_find (ai_tab mGraphDeltasModel_fits) 20 = some (.iload_n 3, 21, 3, 0, 0, .null, []) := rfl
theorem iGraphDeltasModel_fits_21 : ai_find (ai_tab mGraphDeltasModel_fits) 21 = some (.invokevirtual 173, 24, 157, 3, 1, .ref 7, []) := rfl
theorem iGraphDeltasModel_fits_24 : ai_find (ai_tab mGraphDeltasModel_fits) 24 = some (.ifCond .eq 7, 27, 31, 0, 0, .null, []) := rfl
theorem iGraphDeltasModel_fits_27 : ai_find (ai_tab mGraphDeltasModel_fits) 27 = some (.iconst 1, 28, 0, 0, 0, .int (nI 1), []) := rfl
theorem iGraphDeltasModel_fits_28 : ai_find (ai_tab mGraphDeltasModel_fits) 28 = some (.goto 4, 31, 32, 0, 0, .null, []) := rfl
theorem iGraphDeltasModel_fits_31 : ai_find (ai_tab mGraphDeltasModel_fits) 31 = some (.iconst 0, 32, 0, 0, 0, .int (nI 0), []) := rfl
theorem iGraphDeltasModel_fits_32 : ai_find (ai_tab mGraphDeltasModel_fits) 32 = some (.istore_n 2, 33, 2, 0, 0, .null, []) := rfl
theorem iGraphDeltasModel_fits_33 : ai_find (ai_tab mGraphDeltasModel_fits) 33 = some (.iinc 3 1, 36, 3, 0, 0, .int (nI 1), []) := rfl
theorem iGraphDeltasModel_fits_36 : ai_find (ai_tab mGraphDeltasModel_fits) 36 = some (.goto (-32), 39, 4, 0, 0, .null, []) := rfl
theorem iGraphDeltasModel_fits_39 : ai_find (ai_tab mGraphDeltasModel_fits) 39 = some (.iconst 0, 40, 0, 0, 0, .int (nI 0), []) := rfl
theorem iGraphDeltasModel_fits_40 : ai_find (ai_tab mGraphDeltasModel_fits) 40 = some (.istore_n 3, 41, 3, 0, 0, .null, []) := rfl
theorem iGraphDeltasModel_fits_41 : ai_find (ai_tab mGraphDeltasModel_fits) 41 = some (.iload_n 3, 42, 3, 0, 0, .null, []) := rfl
theorem iGraphDeltasModel_fits_42 : ai_find (ai_tab mGraphDeltasModel_fits) 42 = some (.bipush 16, 44, 0, 0, 0, .int (nI 16), []) := rfl
theorem iGraphDeltasModel_fits_44 : ai_find (ai_tab mGraphDeltasModel_fits) 44 = some (.if_icmp .ge 32, 47, 76, 0, 0, .null, []) := rfl
theorem iGraphDeltasModel_fits_47 : ai_find (ai_tab mGraphDeltasModel_fits) 47 = some (.iload_n 2, 48, 2, 0, 0, .null, []) := rfl
theorem iGraphDeltasModel_fits_48 : ai_find (ai_tab mGraphDeltasModel_fits) 48 = some (.ifCond .eq 20, 51, 68, 0, 0, .null, []) := rfl
theorem iGraphDeltasModel_fits_51 : ai_find (ai_tab mGraphDeltasModel_fits) 51 = some (.aload_n 0, 52, 0, 0, 0, .null, []) := rfl
theorem iGraphDeltasModel_fits_52 : ai_find (ai_tab mGraphDeltasModel_fits) 52 = some (.iload_n 1, 53, 1, 0, 0, .null, []) := rfl
theorem iGraphDeltasModel_fits_53 : ai_find (ai_tab mGraphDeltasModel_fits) 53 = some (.iload_n 3, 54, 3, 0, 0, .null, []) := rfl
theorem iGraphDeltasModel_fits_54 : ai_find (ai_tab mGraphDeltasModel_fits) 54 = some (.invokevirtual 176, 57, 142, 3, 1, .ref 7, []) := rfl
theorem iGraphDeltasModel_fits_57 : ai_find (ai_tab mGraphDeltasModel_fits) 57 = some (.ldc2_w 180, 60, 0, 0, 0, .long 6, []) := rfl
theorem iGraphDeltasModel_fits_60 : ai_find (ai_tab mGraphDeltasModel_fits) 60 = some (.lcmp, 61, 0, 0, 0, .null, []) := rfl
theorem iGraphDeltasModel_fits_61 : ai_find (ai_tab mGraphDeltasModel_fits) 61 = some (.ifCond .gt 7, 64, 68, 0, 0, .null, []) := rfl
theorem iGraphDeltasModel_fits_64 : ai_find (ai_tab mGraphDeltasModel_fits) 64 = some (.iconst 1, 65, 0, 0, 0, .int (nI 1), []) := rfl
theorem iGraphDeltasModel_fits_65 : ai_find (ai_tab mGraphDeltasModel_fits) 65 = some (.goto 4, 68, 69, 0, 0, .null, []) := rfl
theorem iGraphDeltasModel_fits_68 : ai_find (ai_tab mGraphDeltasModel_fits) 68 = some (.iconst 0, 69, 0, 0, 0, .int (nI 0), []) := rfl
theorem iGraphDeltasModel_fits_69 : ai_find (ai_tab mGraphDeltasModel_fits) 69 = some (.istore_n 2, 70, 2, 0, 0, .null, []) := rfl
theorem iGraphDeltasModel_fits_70 : ai_find (ai_tab mGraphDeltasModel_fits) 70 = some (.iinc 3 1, 73, 3, 0, 0, .int (nI 1), []) := rfl
theorem iGraphDeltasModel_fits_73 : ai_find (ai_tab mGraphDeltasModel_fits) 73 = some (.goto (-32), 76, 41, 0, 0, .null, []) := rfl
theorem iGraphDeltasModel_fits_76 : ai_find (ai_tab mGraphDeltasModel_fits) 76 = some (.iload_n 2, 77, 2, 0, 0, .null, []) := rfl
theorem iGraphDeltasModel_fits_77 : ai_find (ai_tab mGraphDeltasModel_fits) 77 = some (.ireturn, 78, 1, 0, 0, .null, []) := rfl
theorem iGraphDeltasModel_follows_0 : ai_find (ai_tab mGraphDeltasModel_follows) 0 = some (.iload_n 1, 1, 1, 0, 0, .null, []) := rfl
theorem iGraphDeltasModel_follows_1 : ai_find (ai_tab mGraphDeltasModel_follows) 1 = some (.sipush 390, 4, 0, 0, 0, .int (nI 390), []) := rfl
theorem iGraphDeltasModel_follows_4 : ai_find (ai_tab mGraphDeltasModel_follows) 4 = some (.if_icmp .ne 5, 7, 9, 0, 0, .null, []) := rfl
theorem iGraphDeltasModel_follows_7 : ai_find (ai_tab mGraphDeltasModel_follows) 7 = some (.iconst 1, 8, 0, 0, 0, .int (nI 1), []) := rfl
theorem iGraphDeltasModel_follows_8 : ai_find (ai_tab mGraphDeltasModel_follows) 8 = some (.ireturn, 9, 1, 0, 0, .null, []) := rfl
theorem iGraphDeltasModel_follows_9 : ai_find (ai_tab mGraphDeltasModel_follows) 9 = some (.iload_n 1, 10, 1, 0, 0, .null, []) := rfl
theorem iGraphDeltasModel_follows_10 : ai_find (ai_tab mGraphDeltasModel_follows) 10 = some (.iconst 1, 11, 0, 0, 0, .int (nI 1), []) := rfl
theorem iGraphDeltasModel_follows_11 : ai_find (ai_tab mGraphDeltasModel_follows) 11 = some (.isub, 12, 0, 0, 0, .null, []) := rfl
theorem iGraphDeltasModel_follows_12 : ai_find (ai_tab mGraphDeltasModel_follows) 12 = some (.istore_n 2, 13, 2, 0, 0, .null, []) := rfl
theorem iGraphDeltasModel_follows_13 : ai_find (ai_tab mGraphDeltasModel_follows) 13 = some (.aload_n 0, 14, 0, 0, 0, .null, []) := rfl
theorem iGraphDeltasModel_follows_14 : ai_find (ai_tab mGraphDeltasModel_follows) 14 = some (.getfield 34, 17, 7, 8, 0, .null, []) := rfl
theorem iGraphDeltasModel_follows_17 : ai_find (ai_tab mGraphDeltasModel_follows) 17 = some (.iload_n 1, 18, 1, 0, 0, .null, []) := rfl
theorem iGraphDeltasModel_follows_18 : ai_find (ai_tab mGraphDeltasModel_follows) 18 = some (.iaload, 19, 0, 0, 0, .null, []) := rfl
theorem iGraphDeltasModel_follows_19 : ai_find (ai_tab mGraphDeltasModel_follows) 19 = some (.iconst 1, 20, 0, 0, 0, .int (nI 1), []) := rfl
theorem iGraphDeltasModel_follows_20 : ai_find (ai_tab mGraphDeltasModel_follows) 20 = some (.if_icmp .ne 34, 23, 54, 0, 0, .null, []) := rfl
theorem iGraphDeltasModel_follows_23 : ai_find (ai_tab mGraphDeltasModel_follows) 23 = some (.aload_n 0, 24, 0, 0, 0, .null, []) := rfl
theorem iGraphDeltasModel_follows_24 : ai_find (ai_tab mGraphDeltasModel_follows) 24 = some (.getfield 34, 27, 7, 8, 0, .null, []) := rfl
theorem iGraphDeltasModel_follows_27 : ai_find (ai_tab mGraphDeltasModel_follows) 27 = some (.iload_n 2, 28, 2, 0, 0, .null, []) := rfl
theorem iGraphDeltasModel_follows_28 : ai_find (ai_tab mGraphDeltasModel_follows) 28 = some (.iaload, 29, 0, 0, 0, .null, []) := rfl
theorem iGraphDeltasModel_follows_29 : ai_find (ai_tab mGraphDeltasModel_follows) 29 = some (.iconst 1, 30, 0, 0, 0, .int (nI 1), []) := rfl
theorem iGraphDeltasModel_follows_30 : ai_find (ai_tab mGraphDeltasModel_follows) 30 = some (.if_icmp .ne 22, 33, 52, 0, 0, .null, []) := rfl
theorem iGraphDeltasModel_follows_33 : ai_find (ai_tab mGraphDeltasModel_follows) 33 = some (.aload_n 0, 34, 0, 0, 0, .null, []) := rfl
theorem iGraphDeltasModel_follows_34 : ai_find (ai_tab mGraphDeltasModel_follows) 34 = some (.getfield 37, 37, 7, 9, 0, .null, []) := rfl
theorem iGraphDeltasModel_follows_37 : ai_find (ai_tab mGraphDeltasModel_follows) 37 = some (.iload_n 2, 38, 2, 0, 0, .null, []) := rfl
theorem iGraphDeltasModel_follows_38 : ai_find (ai_tab mGraphDeltasModel_follows) 38 = some (.iaload, 39, 0, 0, 0, .null, []) := rfl
theorem iGraphDeltasModel_follows_39 : ai_find (ai_tab mGraphDeltasModel_follows) 39 = some (.aload_n 0, 40, 0, 0, 0, .null, []) := rfl
theorem iGraphDeltasModel_follows_40 : ai_find (ai_tab mGraphDeltasModel_follows) 40 = some (.getfield 37, 43, 7, 9, 0, .null, []) := rfl
theorem iGraphDeltasModel_follows_43 : ai_find (ai_tab mGraphDeltasModel_follows) 43 = some (.iload_n 1, 44, 1, 0, 0, .null, []) := rfl
theorem iGraphDeltasModel_follows_44 : ai_find (ai_tab mGraphDeltasModel_follows) 44 = some (.iaload, 45, 0, 0, 0, .null, []) := rfl
theorem iGraphDeltasModel_follows_45 : ai_find (ai_tab mGraphDeltasModel_follows) 45 = some (.if_icmp .ge 7, 48, 52, 0, 0, .null, []) := rfl
theorem iGraphDeltasModel_follows_48 : ai_find (ai_tab mGraphDeltasModel_follows) 48 = some (.iconst 1, 49, 0, 0, 0, .int (nI 1), []) := rfl
theorem iGraphDeltasModel_follows_49 : ai_find (ai_tab mGraphDeltasModel_follows) 49 = some (.goto 4, 52, 53, 0, 0, .null, []) := rfl
theorem iGraphDeltasModel_follows_52 : ai_find (ai_tab mGraphDeltasModel_follows) 52 = some (.iconst 0, 53, 0, 0, 0, .int (nI 0), []) := rfl
theorem iGraphDeltasModel_follows_53 : ai_find (ai_tab mGraphDeltasModel_follows) 53 = some (.ireturn, 54, 1, 0, 0, .null, []) := rfl
theorem iGraphDeltasModel_follows_54 : ai_find (ai_tab mGraphDeltasModel_follows) 54 = some (.aload_n 0, 55, 0, 0, 0, .null, []) := rfl
theorem iGraphDeltasModel_follows_55 : ai_find (ai_tab mGraphDeltasModel_follows) 55 = some (.getfield 34, 58, 7, 8, 0, .null, []) := rfl
theorem iGraphDeltasModel_follows_58 : ai_find (ai_tab mGraphDeltasModel_follows) 58 = some (.iload_n 2, 59, 2, 0, 0, .null, []) := rfl
theorem iGraphDeltasModel_follows_59 : ai_find (ai_tab mGraphDeltasModel_follows) 59 = some (.iaload, 60, 0, 0, 0, .null, []) := rfl
theorem iGraphDeltasModel_follows_60 : ai_find (ai_tab mGraphDeltasModel_follows) 60 = some (.iconst 1, 61, 0, 0, 0, .int (nI 1), []) := rfl
theorem iGraphDeltasModel_follows_61 : ai_find (ai_tab mGraphDeltasModel_follows) 61 = some (.if_icmp .eq 18, 64, 79, 0, 0, .null, []) := rfl
theorem iGraphDeltasModel_follows_64 : ai_find (ai_tab mGraphDeltasModel_follows) 64 = some (.aload_n 0, 65, 0, 0, 0, .null, []) := rfl
theorem iGraphDeltasModel_follows_65 : ai_find (ai_tab mGraphDeltasModel_follows) 65 = some (.getfield 37, 68, 7, 9, 0, .null, []) := rfl
theorem iGraphDeltasModel_follows_68 : ai_find (ai_tab mGraphDeltasModel_follows) 68 = some (.iload_n 2, 69, 2, 0, 0, .null, []) := rfl
theorem iGraphDeltasModel_follows_69 : ai_find (ai_tab mGraphDeltasModel_follows) 69 = some (.iaload, 70, 0, 0, 0, .null, []) := rfl
theorem iGraphDeltasModel_follows_70 : ai_find (ai_tab mGraphDeltasModel_follows) 70 = some (.aload_n 0, 71, 0, 0, 0, .null, []) := rfl
theorem iGraphDeltasModel_follows_71 : ai_find (ai_tab mGraphDeltasModel_follows) 71 = some (.getfield 37, 74, 7, 9, 0, .null, []) := rfl
theorem iGraphDeltasModel_follows_74 : ai_find (ai_tab mGraphDeltasModel_follows) 74 = some (.iload_n 1, 75, 1, 0, 0, .null, []) := rfl
theorem iGraphDeltasModel_follows_75 : ai_find (ai_tab mGraphDeltasModel_follows) 75 = some (.iaload, 76, 0, 0, 0, .null, []) := rfl
theorem iGraphDeltasModel_follows_76 : ai_find (ai_tab mGraphDeltasModel_follows) 76 = some (.if_icmp .ge 5, 79, 81, 0, 0, .null, []) := rfl
theorem iGraphDeltasModel_follows_79 : ai_find (ai_tab mGraphDeltasModel_follows) 79 = some (.iconst 1, 80, 0, 0, 0, .int (nI 1), []) := rfl
theorem iGraphDeltasModel_follows_80 : ai_find (ai_tab mGraphDeltasModel_follows) 80 = some (.ireturn, 81, 1, 0, 0, .null, []) := rfl
theorem iGraphDeltasModel_follows_81 : ai_find (ai_tab mGraphDeltasModel_follows) 81 = some (.aload_n 0, 82, 0, 0, 0, .null, []) := rfl
theorem iGraphDeltasModel_follows_82 : ai_find (ai_tab mGraphDeltasModel_follows) 82 = some (.getfield 37, 85, 7, 9, 0, .null, []) := rfl
theorem iGraphDeltasModel_follows_85 : ai_find (ai_tab mGraphDeltasModel_follows) 85 = some (.iload_n 2, 86, 2, 0, 0, .null, []) := rfl
theorem iGraphDeltasModel_follows_86 : ai_find (ai_tab mGraphDeltasModel_follows) 86 = some (.iaload, 87, 0, 0, 0, .null, []) := rfl
theorem iGraphDeltasModel_follows_87 : ai_find (ai_tab mGraphDeltasModel_follows) 87 = some (.aload_n 0, 88, 0, 0, 0, .null, []) := rfl
theorem iGraphDeltasModel_follows_88 : ai_find (ai_tab mGraphDeltasModel_follows) 88 = some (.getfield 37, 91, 7, 9, 0, .null, []) := rfl
theorem iGraphDeltasModel_follows_91 : ai_find (ai_tab mGraphDeltasModel_follows) 91 = some (.iload_n 1, 92, 1, 0, 0, .null, []) := rfl
theorem iGraphDeltasModel_follows_92 : ai_find (ai_tab mGraphDeltasModel_follows) 92 = some (.iaload, 93, 0, 0, 0, .null, []) := rfl
theorem iGraphDeltasModel_follows_93 : ai_find (ai_tab mGraphDeltasModel_follows) 93 = some (.if_icmp .gt 18, 96, 111, 0, 0, .null, []) := rfl
theorem iGraphDeltasModel_follows_96 : ai_find (ai_tab mGraphDeltasModel_follows) 96 = some (.aload_n 0, 97, 0, 0, 0, .null, []) := rfl
set_option maxRecDepth 20000 in theorem iGraphDeltasModel_follows_97 : ai_find (ai_tab mGraphDeltasModel_follows) 97 = some (.getfield 34, 100, 7, 8, 0, .null, []) := rfl
set_option maxRecDepth 20000 in theorem iGraphDeltasModel_follows_100 : ai_find (ai_tab mGraphDeltasModel_follows) 100 = some (.iload_n 2, 101, 2, 0, 0, .null, []) := rfl
set_option maxRecDepth 20000 in theorem iGraphDeltasModel_follows_101 : ai_find (ai_tab mGraphDeltasModel_follows) 101 = some (.iaload, 102, 0, 0, 0, .null, []) := rfl
set_option maxRecDepth 20000 in theorem iGraphDeltasModel_follows_102 : ai_find (ai_tab mGraphDeltasModel_follows) 102 = some (.aload_n 0, 103, 0, 0, 0, .null, []) := rfl
set_option maxRecDepth 20000 in theorem iGraphDeltasModel_follows_103 : ai_find (ai_tab mGraphDeltasModel_follows) 103 = some (.getfield 34, 106, 7, 8, 0, .null, []) := rfl
set_option maxRecDepth 20000 in theorem iGraphDeltasModel_follows_106 : ai_find (ai_tab mGraphDeltasModel_follows) 106 = some (.iload_n 1, 107, 1, 0, 0, .null, []) := rfl
set_option maxRecDepth 20000 in theorem iGraphDeltasModel_follows_107 : ai_find (ai_tab mGraphDeltasModel_follows) 107 = some (.iaload, 108, 0, 0, 0, .null, []) := rfl
set_option maxRecDepth 20000 in theorem iGraphDeltasModel_follows_108 : ai_find (ai_tab mGraphDeltasModel_follows) 108 = some (.if_icmp .eq 5, 111, 113, 0, 0, .null, []) := rfl
set_option maxRecDepth 20000 in theorem iGraphDeltasModel_follows_111 : ai_find (ai_tab mGraphDeltasModel_follows) 111 = some (.iconst 0, 112, 0, 0, 0, .int (nI 0), []) := rfl
set_option maxRecDepth 20000 in theorem iGraphDeltasModel_follows_112 : ai_find (ai_tab mGraphDeltasModel_follows) 112 = some (.ireturn, 113, 1, 0, 0, .null, []) := rfl
set_option maxRecDepth 20000 in theorem iGraphDeltasModel_follows_113 : ai_find (ai_tab mGraphDeltasModel_follows) 113 = some (.aload_n 0, 114, 0, 0, 0, .null, []) := rfl
set_option maxRecDepth 20000 in theorem iGraphDeltasModel_follows_114 : ai_find (ai_tab mGraphDeltasModel_follows) 114 = some (.getfield 34, 117, 7, 8, 0, .null, []) := rfl
set_option maxRecDepth 20000 in theorem iGraphDeltasModel_follows_117 : ai_find (ai_tab mGraphDeltasModel_follows) 117 = some (.iload_n 1, 118, 1, 0, 0, .null, []) := rfl
set_option maxRecDepth 20000 in theorem iGraphDeltasModel_follows_118 : ai_find (ai_tab mGraphDeltasModel_follows) 118 = some (.iaload, 119, 0, 0, 0, .null, []) := rfl
set_option maxRecDepth 20000 in theorem iGraphDeltasModel_follows_119 : ai_find (ai_tab mGraphDeltasModel_follows) 119 = some (.iconst 2, 120, 0, 0, 0, .int (nI 2), []) := rfl
set_option maxRecDepth 20000 in theorem iGraphDeltasModel_follows_120 : ai_find (ai_tab mGraphDeltasModel_follows) 120 = some (.if_icmp .ne 26, 123, 146, 0, 0, .null, []) := rfl
set_option maxRecDepth 20000 in theorem iGraphDeltasModel_follows_123 : ai_find (ai_tab mGraphDeltasModel_follows) 123 = some (.aload_n 0, 124, 0, 0, 0, .null, []) := rfl
set_option maxRecDepth 20000 in theorem iGraphDeltasModel_follows_124 : ai_find (ai_tab mGraphDeltasModel_follows) 124 = some (.getfield 40, 127, 7, 10, 0, .null, []) := rfl
set_option maxRecDepth 20000 in theorem iGraphDeltasModel_follows_127 : ai_find (ai_tab mGraphDeltasModel_follows) 127 = some (.iload_n 2, 128, 2, 0, 0, .null, []) := rfl
set_option maxRecDepth 20000 in theorem iGraphDeltasModel_follows_128 : ai_find (ai_tab mGraphDeltasModel_follows) 128 = some (.iaload, 129, 0, 0, 0, .null, []) := rfl
set_option maxRecDepth 20000 in theorem iGraphDeltasModel_follows_129 : ai_find (ai_tab mGraphDeltasModel_follows) 129 = some (.aload_n 0, 130, 0, 0, 0, .null, []) := rfl
set_option maxRecDepth 20000 in theorem iGraphDeltasModel_follows_130 : ai_find (ai_tab mGraphDeltasModel_follows) 130 = some (.getfield 40, 133, 7, 10, 0, .null, []) := rfl
set_option maxRecDepth 20000 in theorem iGraphDeltasModel_follows_133 : ai_find (ai_tab mGraphDeltasModel_follows) 133 = some (.iload_n 1, 134, 1, 0, 0, .null, []) := rfl
set_option maxRecDepth 20000 in theorem iGraphDeltasModel_follows_134 : ai_find (ai_tab mGraphDeltasModel_follows) 134 = some (.iaload, 135, 0, 0, 0, .null, []) := rfl
set_option maxRecDepth 20000 in theorem iGraphDeltasModel_follows_135 : ai_find (ai_tab mGraphDeltasModel_follows) 135 = some (.if_icmp .ge 7, 138, 142, 0, 0, .null, []) := rfl
set_option maxRecDepth 20000 in theorem iGraphDeltasModel_follows_138 : ai_find (ai_tab mGraphDeltasModel_follows) 138 = some (.iconst 1, 139, 0, 0, 0, .int (nI 1), []) := rfl
set_option maxRecDepth 20000 in theorem iGraphDeltasModel_follows_139 : ai_find (ai_tab mGraphDeltasModel_follows) 139 = some (.goto 34, 142, 173, 0, 0, .null, []) := rfl
set_option maxRecDepth 20000 in theorem iGraphDeltasModel_follows_142 : ai_find (ai_tab mGraphDeltasModel_follows) 142 = some (.iconst 0, 143, 0, 0, 0, .int (nI 0), []) := rfl
set_option maxRecDepth 20000 in theorem iGraphDeltasModel_follows_143 : ai_find (ai_tab mGraphDeltasModel_follows) 143 = some (.goto 30, 146, 173, 0, 0, .null, []) := rfl
set_option maxRecDepth 20000 in theorem iGraphDeltasModel_follows_146 : ai_find (ai_tab mGraphDeltasModel_follows) 146 = some (.aload_n 0, 147, 0, 0, 0, .null, []) := rfl
set_option maxRecDepth 20000 in theorem iGraphDeltasModel_follows_147 : ai_find (ai_tab mGraphDeltasModel_follows) 147 = some (.getfield 40, 150, 7, 10, 0, .null, []) := rfl
set_option maxRecDepth 20000 in theorem iGraphDeltasModel_follows_150 : ai_find (ai_tab mGraphDeltasModel_follows) 150 = some (.iload_n 1, 151, 1, 0, 0, .null, []) := rfl
set_option maxRecDepth 20000 in theorem iGraphDeltasModel_follows_151 : ai_find (ai_tab mGraphDeltasModel_follows) 151 = some (.iaload, 152, 0, 0, 0, .null, []) := rfl
set_option maxRecDepth 20000 in theorem iGraphDeltasModel_follows_152 : ai_find (ai_tab mGraphDeltasModel_follows) 152 = some (.aload_n 0, 153, 0, 0, 0, .null, []) := rfl
set_option maxRecDepth 20000 in theorem iGraphDeltasModel_follows_153 : ai_find (ai_tab mGraphDeltasModel_follows) 153 = some (.getfield 40, 156, 7, 10, 0, .null, []) := rfl
set_option maxRecDepth 20000 in theorem iGraphDeltasModel_follows_156 : ai_find (ai_tab mGraphDeltasModel_follows) 156 = some (.iload_n 2, 157, 2, 0, 0, .null, []) := rfl
set_option maxRecDepth 20000 in theorem iGraphDeltasModel_follows_157 : ai_find (ai_tab mGraphDeltasModel_follows) 157 = some (.iaload, 158, 0, 0, 0, .null, []) := rfl
set_option maxRecDepth 20000 in theorem iGraphDeltasModel_follows_158 : ai_find (ai_tab mGraphDeltasModel_follows) 158 = some (.aload_n 0, 159, 0, 0, 0, .null, []) := rfl
set_option maxRecDepth 20000 in theorem iGraphDeltasModel_follows_159 : ai_find (ai_tab mGraphDeltasModel_follows) 159 = some (.getfield 43, 162, 7, 11, 0, .null, []) := rfl
set_option maxRecDepth 20000 in theorem iGraphDeltasModel_follows_162 : ai_find (ai_tab mGraphDeltasModel_follows) 162 = some (.iload_n 2, 163, 2, 0, 0, .null, []) := rfl
set_option maxRecDepth 20000 in theorem iGraphDeltasModel_follows_163 : ai_find (ai_tab mGraphDeltasModel_follows) 163 = some (.iaload, 164, 0, 0, 0, .null, []) := rfl
set_option maxRecDepth 20000 in theorem iGraphDeltasModel_follows_164 : ai_find (ai_tab mGraphDeltasModel_follows) 164 = some (.iadd, 165, 0, 0, 0, .null, []) := rfl
set_option maxRecDepth 20000 in theorem iGraphDeltasModel_follows_165 : ai_find (ai_tab mGraphDeltasModel_follows) 165 = some (.if_icmp .le 7, 168, 172, 0, 0, .null, []) := rfl
set_option maxRecDepth 20000 in theorem iGraphDeltasModel_follows_168 : ai_find (ai_tab mGraphDeltasModel_follows) 168 = some (.iconst 1, 169, 0, 0, 0, .int (nI 1), []) := rfl
set_option maxRecDepth 20000 in theorem iGraphDeltasModel_follows_169 : ai_find (ai_tab mGraphDeltasModel_follows) 169 = some (.goto 4, 172, 173, 0, 0, .null, []) := rfl
set_option maxRecDepth 20000 in theorem iGraphDeltasModel_follows_172 : ai_find (ai_tab mGraphDeltasModel_follows) 172 = some (.iconst 0, 173, 0, 0, 0, .int (nI 0), []) := rfl
set_option maxRecDepth 20000 in theorem iGraphDeltasModel_follows_173 : ai_find (ai_tab mGraphDeltasModel_follows) 173 = some (.ireturn, 174, 1, 0, 0, .null, []) := rfl
theorem iGraphDeltasModel_formed_0 : ai_find (ai_tab mGraphDeltasModel_formed) 0 = some (.aload_n 0, 1, 0, 0, 0, .null, []) := rfl
theorem iGraphDeltasModel_formed_1 : ai_find (ai_tab mGraphDeltasModel_formed) 1 = some (.getfield 37, 4, 7, 9, 0, .null, []) := rfl
theorem iGraphDeltasModel_formed_4 : ai_find (ai_tab mGraphDeltasModel_formed) 4 = some (.iload_n 1, 5, 1, 0, 0, .null, []) := rfl
theorem iGraphDeltasModel_formed_5 : ai_find (ai_tab mGraphDeltasModel_formed) 5 = some (.iaload, 6, 0, 0, 0, .null, []) := rfl
theorem iGraphDeltasModel_formed_6 : ai_find (ai_tab mGraphDeltasModel_formed) 6 = some (.istore_n 2, 7, 2, 0, 0, .null, []) := rfl
theorem iGraphDeltasModel_formed_7 : ai_find (ai_tab mGraphDeltasModel_formed) 7 = some (.iload_n 2, 8, 2, 0, 0, .null, []) := rfl
theorem iGraphDeltasModel_formed_8 : ai_find (ai_tab mGraphDeltasModel_formed) 8 = some (.invokestatic 73, 11, 144, 1, 0, .null, []) := rfl
theorem iGraphDeltasModel_formed_11 : ai_find (ai_tab mGraphDeltasModel_formed) 11 = some (.ifCond .ne 5, 14, 16, 0, 0, .null, []) := rfl
theorem iGraphDeltasModel_formed_14 : ai_find (ai_tab mGraphDeltasModel_formed) 14 = some (.iconst 0, 15, 0, 0, 0, .int (nI 0), []) := rfl
theorem iGraphDeltasModel_formed_15 : ai_find (ai_tab mGraphDeltasModel_formed) 15 = some (.ireturn, 16, 1, 0, 0, .null, []) := rfl
theorem iGraphDeltasModel_formed_16 : ai_find (ai_tab mGraphDeltasModel_formed) 16 = some (.aload_n 0, 17, 0, 0, 0, .null, []) := rfl
theorem iGraphDeltasModel_formed_17 : ai_find (ai_tab mGraphDeltasModel_formed) 17 = some (.getfield 34, 20, 7, 8, 0, .null, []) := rfl
theorem iGraphDeltasModel_formed_20 : ai_find (ai_tab mGraphDeltasModel_formed) 20 = some (.iload_n 1, 21, 1, 0, 0, .null, []) := rfl
theorem iGraphDeltasModel_formed_21 : ai_find (ai_tab mGraphDeltasModel_formed) 21 = some (.iaload, 22, 0, 0, 0, .null, []) := rfl
theorem iGraphDeltasModel_formed_22 : ai_find (ai_tab mGraphDeltasModel_formed) 22 = some (.iconst 1, 23, 0, 0, 0, .int (nI 1), []) := rfl
theorem iGraphDeltasModel_formed_23 : ai_find (ai_tab mGraphDeltasModel_formed) 23 = some (.if_icmp .ne 23, 26, 46, 0, 0, .null, []) := rfl
theorem iGraphDeltasModel_formed_26 : ai_find (ai_tab mGraphDeltasModel_formed) 26 = some (.iload_n 2, 27, 2, 0, 0, .null, []) := rfl
theorem iGraphDeltasModel_formed_27 : ai_find (ai_tab mGraphDeltasModel_formed) 27 = some (.ifCond .le 17, 30, 44, 0, 0, .null, []) := rfl
theorem iGraphDeltasModel_formed_30 : ai_find (ai_tab mGraphDeltasModel_formed) 30 = some (.aload_n 0, 31, 0, 0, 0, .null, []) := rfl
theorem iGraphDeltasModel_formed_31 : ai_find (ai_tab mGraphDeltasModel_formed) 31 = some (.getfield 40, 34, 7, 10, 0, .null, []) := rfl
theorem iGraphDeltasModel_formed_34 : ai_find (ai_tab mGraphDeltasModel_formed) 34 = some (.iload_n 1, 35, 1, 0, 0, .null, []) := rfl
theorem iGraphDeltasModel_formed_35 : ai_find (ai_tab mGraphDeltasModel_formed) 35 = some (.iaload, 36, 0, 0, 0, .null, []) := rfl
theorem iGraphDeltasModel_formed_36 : ai_find (ai_tab mGraphDeltasModel_formed) 36 = some (.iconst 1, 37, 0, 0, 0, .int (nI 1), []) := rfl
theorem iGraphDeltasModel_formed_37 : ai_find (ai_tab mGraphDeltasModel_formed) 37 = some (.if_icmp .gt 7, 40, 44, 0, 0, .null, []) := rfl
theorem iGraphDeltasModel_formed_40 : ai_find (ai_tab mGraphDeltasModel_formed) 40 = some (.iconst 1, 41, 0, 0, 0, .int (nI 1), []) := rfl
theorem iGraphDeltasModel_formed_41 : ai_find (ai_tab mGraphDeltasModel_formed) 41 = some (.goto 4, 44, 45, 0, 0, .null, []) := rfl
theorem iGraphDeltasModel_formed_44 : ai_find (ai_tab mGraphDeltasModel_formed) 44 = some (.iconst 0, 45, 0, 0, 0, .int (nI 0), []) := rfl
theorem iGraphDeltasModel_formed_45 : ai_find (ai_tab mGraphDeltasModel_formed) 45 = some (.ireturn, 46, 1, 0, 0, .null, []) := rfl
theorem iGraphDeltasModel_formed_46 : ai_find (ai_tab mGraphDeltasModel_formed) 46 = some (.sipush 390, 49, 0, 0, 0, .int (nI 390), []) := rfl
theorem iGraphDeltasModel_formed_49 : ai_find (ai_tab mGraphDeltasModel_formed) 49 = some (.istore_n 3, 50, 3, 0, 0, .null, []) := rfl
theorem iGraphDeltasModel_formed_50 : ai_find (ai_tab mGraphDeltasModel_formed) 50 = some (.iload_n 3, 51, 3, 0, 0, .null, []) := rfl
theorem iGraphDeltasModel_formed_51 : ai_find (ai_tab mGraphDeltasModel_formed) 51 = some (.iload_n 1, 52, 1, 0, 0, .null, []) := rfl
theorem iGraphDeltasModel_formed_52 : ai_find (ai_tab mGraphDeltasModel_formed) 52 = some (.if_icmp .ge 55, 55, 107, 0, 0, .null, []) := rfl
theorem iGraphDeltasModel_formed_55 : ai_find (ai_tab mGraphDeltasModel_formed) 55 = some (.aload_n 0, 56, 0, 0, 0, .null, []) := rfl
theorem iGraphDeltasModel_formed_56 : ai_find (ai_tab mGraphDeltasModel_formed) 56 = some (.getfield 34, 59, 7, 8, 0, .null, []) := rfl
theorem iGraphDeltasModel_formed_59 : ai_find (ai_tab mGraphDeltasModel_formed) 59 = some (.iload_n 3, 60, 3, 0, 0, .null, []) := rfl
theorem iGraphDeltasModel_formed_60 : ai_find (ai_tab mGraphDeltasModel_formed) 60 = some (.iaload, 61, 0, 0, 0, .null, []) := rfl
theorem iGraphDeltasModel_formed_61 : ai_find (ai_tab mGraphDeltasModel_formed) 61 = some (.iconst 1, 62, 0, 0, 0, .int (nI 1), []) := rfl
theorem iGraphDeltasModel_formed_62 : ai_find (ai_tab mGraphDeltasModel_formed) 62 = some (.if_icmp .ne 39, 65, 101, 0, 0, .null, []) := rfl
theorem iGraphDeltasModel_formed_65 : ai_find (ai_tab mGraphDeltasModel_formed) 65 = some (.aload_n 0, 66, 0, 0, 0, .null, []) := rfl
theorem iGraphDeltasModel_formed_66 : ai_find (ai_tab mGraphDeltasModel_formed) 66 = some (.getfield 37, 69, 7, 9, 0, .null, []) := rfl
theorem iGraphDeltasModel_formed_69 : ai_find (ai_tab mGraphDeltasModel_formed) 69 = some (.iload_n 3, 70, 3, 0, 0, .null, []) := rfl
theorem iGraphDeltasModel_formed_70 : ai_find (ai_tab mGraphDeltasModel_formed) 70 = some (.iaload, 71, 0, 0, 0, .null, []) := rfl
theorem iGraphDeltasModel_formed_71 : ai_find (ai_tab mGraphDeltasModel_formed) 71 = some (.iload_n 2, 72, 2, 0, 0, .null, []) := rfl
theorem iGraphDeltasModel_formed_72 : ai_find (ai_tab mGraphDeltasModel_formed) 72 = some (.if_icmp .ne 29, 75, 101, 0, 0, .null, []) := rfl
theorem iGraphDeltasModel_formed_75 : ai_find (ai_tab mGraphDeltasModel_formed) 75 = some (.aload_n 0, 76, 0, 0, 0, .null, []) := rfl
theorem iGraphDeltasModel_formed_76 : ai_find (ai_tab mGraphDeltasModel_formed) 76 = some (.getfield 40, 79, 7, 10, 0, .null, []) := rfl
theorem iGraphDeltasModel_formed_79 : ai_find (ai_tab mGraphDeltasModel_formed) 79 = some (.iload_n 3, 80, 3, 0, 0, .null, []) := rfl
theorem iGraphDeltasModel_formed_80 : ai_find (ai_tab mGraphDeltasModel_formed) 80 = some (.iaload, 81, 0, 0, 0, .null, []) := rfl
theorem iGraphDeltasModel_formed_81 : ai_find (ai_tab mGraphDeltasModel_formed) 81 = some (.aload_n 0, 82, 0, 0, 0, .null, []) := rfl
theorem iGraphDeltasModel_formed_82 : ai_find (ai_tab mGraphDeltasModel_formed) 82 = some (.getfield 34, 85, 7, 8, 0, .null, []) := rfl
theorem iGraphDeltasModel_formed_85 : ai_find (ai_tab mGraphDeltasModel_formed) 85 = some (.iload_n 1, 86, 1, 0, 0, .null, []) := rfl
theorem iGraphDeltasModel_formed_86 : ai_find (ai_tab mGraphDeltasModel_formed) 86 = some (.iaload, 87, 0, 0, 0, .null, []) := rfl
theorem iGraphDeltasModel_formed_87 : ai_find (ai_tab mGraphDeltasModel_formed) 87 = some (.iconst 2, 88, 0, 0, 0, .int (nI 2), []) := rfl
theorem iGraphDeltasModel_formed_88 : ai_find (ai_tab mGraphDeltasModel_formed) 88 = some (.if_icmp .ne 7, 91, 95, 0, 0, .null, []) := rfl
theorem iGraphDeltasModel_formed_91 : ai_find (ai_tab mGraphDeltasModel_formed) 91 = some (.iconst 0, 92, 0, 0, 0, .int (nI 0), []) := rfl
theorem iGraphDeltasModel_formed_92 : ai_find (ai_tab mGraphDeltasModel_formed) 92 = some (.goto 4, 95, 96, 0, 0, .null, []) := rfl
theorem iGraphDeltasModel_formed_95 : ai_find (ai_tab mGraphDeltasModel_formed) 95 = some (.iconst 1, 96, 0, 0, 0, .int (nI 1), []) := rfl
theorem iGraphDeltasModel_formed_96 : ai_find (ai_tab mGraphDeltasModel_formed) 96 = some (.if_icmp .eq 5, 99, 101, 0, 0, .null, []) := rfl
theorem iGraphDeltasModel_formed_99 : ai_find (ai_tab mGraphDeltasModel_formed) 99 = some (.iconst 0, 100, 0, 0, 0, .int (nI 0), []) := rfl
theorem iGraphDeltasModel_formed_100 : ai_find (ai_tab mGraphDeltasModel_formed) 100 = some (.ireturn, 101, 1, 0, 0, .null, []) := rfl
set_option maxRecDepth 20000 in theorem iGraphDeltasModel_formed_101 : ai_find (ai_tab mGraphDeltasModel_formed) 101 = some (.iinc 3 1, 104, 3, 0, 0, .int (nI 1), []) := rfl
set_option maxRecDepth 20000 in theorem iGraphDeltasModel_formed_104 : ai_find (ai_tab mGraphDeltasModel_formed) 104 = some (.goto (-54), 107, 50, 0, 0, .null, []) := rfl
set_option maxRecDepth 20000 in theorem iGraphDeltasModel_formed_107 : ai_find (ai_tab mGraphDeltasModel_formed) 107 = some (.aload_n 0, 108, 0, 0, 0, .null, []) := rfl
set_option maxRecDepth 20000 in theorem iGraphDeltasModel_formed_108 : ai_find (ai_tab mGraphDeltasModel_formed) 108 = some (.getfield 34, 111, 7, 8, 0, .null, []) := rfl
set_option maxRecDepth 20000 in theorem iGraphDeltasModel_formed_111 : ai_find (ai_tab mGraphDeltasModel_formed) 111 = some (.iload_n 1, 112, 1, 0, 0, .null, []) := rfl
set_option maxRecDepth 20000 in theorem iGraphDeltasModel_formed_112 : ai_find (ai_tab mGraphDeltasModel_formed) 112 = some (.iaload, 113, 0, 0, 0, .null, []) := rfl
set_option maxRecDepth 20000 in theorem iGraphDeltasModel_formed_113 : ai_find (ai_tab mGraphDeltasModel_formed) 113 = some (.iconst 2, 114, 0, 0, 0, .int (nI 2), []) := rfl
set_option maxRecDepth 20000 in theorem iGraphDeltasModel_formed_114 : ai_find (ai_tab mGraphDeltasModel_formed) 114 = some (.if_icmp .ne 52, 117, 166, 0, 0, .null, []) := rfl
set_option maxRecDepth 20000 in theorem iGraphDeltasModel_formed_117 : ai_find (ai_tab mGraphDeltasModel_formed) 117 = some (.aload_n 0, 118, 0, 0, 0, .null, []) := rfl
set_option maxRecDepth 20000 in theorem iGraphDeltasModel_formed_118 : ai_find (ai_tab mGraphDeltasModel_formed) 118 = some (.getfield 40, 121, 7, 10, 0, .null, []) := rfl
set_option maxRecDepth 20000 in theorem iGraphDeltasModel_formed_121 : ai_find (ai_tab mGraphDeltasModel_formed) 121 = some (.iload_n 1, 122, 1, 0, 0, .null, []) := rfl
set_option maxRecDepth 20000 in theorem iGraphDeltasModel_formed_122 : ai_find (ai_tab mGraphDeltasModel_formed) 122 = some (.iaload, 123, 0, 0, 0, .null, []) := rfl
set_option maxRecDepth 20000 in theorem iGraphDeltasModel_formed_123 : ai_find (ai_tab mGraphDeltasModel_formed) 123 = some (.iconst 2, 124, 0, 0, 0, .int (nI 2), []) := rfl
set_option maxRecDepth 20000 in theorem iGraphDeltasModel_formed_124 : ai_find (ai_tab mGraphDeltasModel_formed) 124 = some (.if_icmp .gt 40, 127, 164, 0, 0, .null, []) := rfl
set_option maxRecDepth 20000 in theorem iGraphDeltasModel_formed_127 : ai_find (ai_tab mGraphDeltasModel_formed) 127 = some (.aload_n 0, 128, 0, 0, 0, .null, []) := rfl
set_option maxRecDepth 20000 in theorem iGraphDeltasModel_formed_128 : ai_find (ai_tab mGraphDeltasModel_formed) 128 = some (.getfield 43, 131, 7, 11, 0, .null, []) := rfl
set_option maxRecDepth 20000 in theorem iGraphDeltasModel_formed_131 : ai_find (ai_tab mGraphDeltasModel_formed) 131 = some (.iload_n 1, 132, 1, 0, 0, .null, []) := rfl
set_option maxRecDepth 20000 in theorem iGraphDeltasModel_formed_132 : ai_find (ai_tab mGraphDeltasModel_formed) 132 = some (.iaload, 133, 0, 0, 0, .null, []) := rfl
set_option maxRecDepth 20000 in theorem iGraphDeltasModel_formed_133 : ai_find (ai_tab mGraphDeltasModel_formed) 133 = some (.iconst 2, 134, 0, 0, 0, .int (nI 2), []) := rfl
set_option maxRecDepth 20000 in theorem iGraphDeltasModel_formed_134 : ai_find (ai_tab mGraphDeltasModel_formed) 134 = some (.if_icmp .gt 30, 137, 164, 0, 0, .null, []) := rfl
set_option maxRecDepth 20000 in theorem iGraphDeltasModel_formed_137 : ai_find (ai_tab mGraphDeltasModel_formed) 137 = some (.aload_n 0, 138, 0, 0, 0, .null, []) := rfl
set_option maxRecDepth 20000 in theorem iGraphDeltasModel_formed_138 : ai_find (ai_tab mGraphDeltasModel_formed) 138 = some (.getfield 43, 141, 7, 11, 0, .null, []) := rfl
set_option maxRecDepth 20000 in theorem iGraphDeltasModel_formed_141 : ai_find (ai_tab mGraphDeltasModel_formed) 141 = some (.iload_n 1, 142, 1, 0, 0, .null, []) := rfl
set_option maxRecDepth 20000 in theorem iGraphDeltasModel_formed_142 : ai_find (ai_tab mGraphDeltasModel_formed) 142 = some (.iaload, 143, 0, 0, 0, .null, []) := rfl
set_option maxRecDepth 20000 in theorem iGraphDeltasModel_formed_143 : ai_find (ai_tab mGraphDeltasModel_formed) 143 = some (.iconst 2, 144, 0, 0, 0, .int (nI 2), []) := rfl
set_option maxRecDepth 20000 in theorem iGraphDeltasModel_formed_144 : ai_find (ai_tab mGraphDeltasModel_formed) 144 = some (.if_icmp .ne 16, 147, 160, 0, 0, .null, []) := rfl
set_option maxRecDepth 20000 in theorem iGraphDeltasModel_formed_147 : ai_find (ai_tab mGraphDeltasModel_formed) 147 = some (.aload_n 0, 148, 0, 0, 0, .null, []) := rfl
set_option maxRecDepth 20000 in theorem iGraphDeltasModel_formed_148 : ai_find (ai_tab mGraphDeltasModel_formed) 148 = some (.getfield 46, 151, 7, 12, 0, .null, []) := rfl
set_option maxRecDepth 20000 in theorem iGraphDeltasModel_formed_151 : ai_find (ai_tab mGraphDeltasModel_formed) 151 = some (.iload_n 1, 152, 1, 0, 0, .null, []) := rfl
set_option maxRecDepth 20000 in theorem iGraphDeltasModel_formed_152 : ai_find (ai_tab mGraphDeltasModel_formed) 152 = some (.laload, 153, 0, 0, 0, .null, []) := rfl
set_option maxRecDepth 20000 in theorem iGraphDeltasModel_formed_153 : ai_find (ai_tab mGraphDeltasModel_formed) 153 = some (.l2i, 154, 0, 0, 0, .null, []) := rfl
set_option maxRecDepth 20000 in theorem iGraphDeltasModel_formed_154 : ai_find (ai_tab mGraphDeltasModel_formed) 154 = some (.invokestatic 73, 157, 144, 1, 0, .null, []) := rfl
set_option maxRecDepth 20000 in theorem iGraphDeltasModel_formed_157 : ai_find (ai_tab mGraphDeltasModel_formed) 157 = some (.ifCond .eq 7, 160, 164, 0, 0, .null, []) := rfl
set_option maxRecDepth 20000 in theorem iGraphDeltasModel_formed_160 : ai_find (ai_tab mGraphDeltasModel_formed) 160 = some (.iconst 1, 161, 0, 0, 0, .int (nI 1), []) := rfl
set_option maxRecDepth 20000 in theorem iGraphDeltasModel_formed_161 : ai_find (ai_tab mGraphDeltasModel_formed) 161 = some (.goto 4, 164, 165, 0, 0, .null, []) := rfl
set_option maxRecDepth 20000 in theorem iGraphDeltasModel_formed_164 : ai_find (ai_tab mGraphDeltasModel_formed) 164 = some (.iconst 0, 165, 0, 0, 0, .int (nI 0), []) := rfl
set_option maxRecDepth 20000 in theorem iGraphDeltasModel_formed_165 : ai_find (ai_tab mGraphDeltasModel_formed) 165 = some (.ireturn, 166, 1, 0, 0, .null, []) := rfl
set_option maxRecDepth 20000 in theorem iGraphDeltasModel_formed_166 : ai_find (ai_tab mGraphDeltasModel_formed) 166 = some (.aload_n 0, 167, 0, 0, 0, .null, []) := rfl
set_option maxRecDepth 20000 in theorem iGraphDeltasModel_formed_167 : ai_find (ai_tab mGraphDeltasModel_formed) 167 = some (.getfield 40, 170, 7, 10, 0, .null, []) := rfl
set_option maxRecDepth 20000 in theorem iGraphDeltasModel_formed_170 : ai_find (ai_tab mGraphDeltasModel_formed) 170 = some (.iload_n 1, 171, 1, 0, 0, .null, []) := rfl
set_option maxRecDepth 20000 in theorem iGraphDeltasModel_formed_171 : ai_find (ai_tab mGraphDeltasModel_formed) 171 = some (.iaload, 172, 0, 0, 0, .null, []) := rfl
set_option maxRecDepth 20000 in theorem iGraphDeltasModel_formed_172 : ai_find (ai_tab mGraphDeltasModel_formed) 172 = some (.aload_n 0, 173, 0, 0, 0, .null, []) := rfl
set_option maxRecDepth 20000 in theorem iGraphDeltasModel_formed_173 : ai_find (ai_tab mGraphDeltasModel_formed) 173 = some (.getfield 43, 176, 7, 11, 0, .null, []) := rfl
set_option maxRecDepth 20000 in theorem iGraphDeltasModel_formed_176 : ai_find (ai_tab mGraphDeltasModel_formed) 176 = some (.iload_n 1, 177, 1, 0, 0, .null, []) := rfl
set_option maxRecDepth 20000 in theorem iGraphDeltasModel_formed_177 : ai_find (ai_tab mGraphDeltasModel_formed) 177 = some (.iaload, 178, 0, 0, 0, .null, []) := rfl
set_option maxRecDepth 20000 in theorem iGraphDeltasModel_formed_178 : ai_find (ai_tab mGraphDeltasModel_formed) 178 = some (.iadd, 179, 0, 0, 0, .null, []) := rfl
set_option maxRecDepth 20000 in theorem iGraphDeltasModel_formed_179 : ai_find (ai_tab mGraphDeltasModel_formed) 179 = some (.bipush 6, 181, 0, 0, 0, .int (nI 6), []) := rfl
set_option maxRecDepth 20000 in theorem iGraphDeltasModel_formed_181 : ai_find (ai_tab mGraphDeltasModel_formed) 181 = some (.if_icmp .gt 26, 184, 207, 0, 0, .null, []) := rfl
set_option maxRecDepth 20000 in theorem iGraphDeltasModel_formed_184 : ai_find (ai_tab mGraphDeltasModel_formed) 184 = some (.aload_n 0, 185, 0, 0, 0, .null, []) := rfl
set_option maxRecDepth 20000 in theorem iGraphDeltasModel_formed_185 : ai_find (ai_tab mGraphDeltasModel_formed) 185 = some (.getfield 43, 188, 7, 11, 0, .null, []) := rfl
set_option maxRecDepth 20000 in theorem iGraphDeltasModel_formed_188 : ai_find (ai_tab mGraphDeltasModel_formed) 188 = some (.iload_n 1, 189, 1, 0, 0, .null, []) := rfl
set_option maxRecDepth 20000 in theorem iGraphDeltasModel_formed_189 : ai_find (ai_tab mGraphDeltasModel_formed) 189 = some (.iaload, 190, 0, 0, 0, .null, []) := rfl
set_option maxRecDepth 20000 in theorem iGraphDeltasModel_formed_190 : ai_find (ai_tab mGraphDeltasModel_formed) 190 = some (.i2l, 191, 0, 0, 0, .null, []) := rfl
set_option maxRecDepth 20000 in theorem iGraphDeltasModel_formed_191 : ai_find (ai_tab mGraphDeltasModel_formed) 191 = some (.aload_n 0, 192, 0, 0, 0, .null, []) := rfl
set_option maxRecDepth 20000 in theorem iGraphDeltasModel_formed_192 : ai_find (ai_tab mGraphDeltasModel_formed) 192 = some (.getfield 46, 195, 7, 12, 0, .null, []) := rfl
set_option maxRecDepth 20000 in theorem iGraphDeltasModel_formed_195 : ai_find (ai_tab mGraphDeltasModel_formed) 195 = some (.iload_n 1, 196, 1, 0, 0, .null, []) := rfl
set_option maxRecDepth 20000 in theorem iGraphDeltasModel_formed_196 : ai_find (ai_tab mGraphDeltasModel_formed) 196 = some (.laload, 197, 0, 0, 0, .null, []) := rfl
set_option maxRecDepth 20000 in theorem iGraphDeltasModel_formed_197 : ai_find (ai_tab mGraphDeltasModel_formed) 197 = some (.ladd, 198, 0, 0, 0, .null, []) := rfl
set_option maxRecDepth 20000 in theorem iGraphDeltasModel_formed_198 : ai_find (ai_tab mGraphDeltasModel_formed) 198 = some (.lconst 0, 199, 0, 0, 0, .long 0, []) := rfl
set_option maxRecDepth 20000 in theorem iGraphDeltasModel_formed_199 : ai_find (ai_tab mGraphDeltasModel_formed) 199 = some (.lcmp, 200, 0, 0, 0, .null, []) := rfl
set_option maxRecDepth 20000 in theorem iGraphDeltasModel_formed_200 : ai_find (ai_tab mGraphDeltasModel_formed) 200 = some (.ifCond .le 7, 203, 207, 0, 0, .null, []) := rfl
set_option maxRecDepth 20000 in theorem iGraphDeltasModel_formed_203 : ai_find (ai_tab mGraphDeltasModel_formed) 203 = some (.iconst 1, 204, 0, 0, 0, .int (nI 1), []) := rfl
set_option maxRecDepth 20000 in theorem iGraphDeltasModel_formed_204 : ai_find (ai_tab mGraphDeltasModel_formed) 204 = some (.goto 4, 207, 208, 0, 0, .null, []) := rfl
set_option maxRecDepth 20000 in theorem iGraphDeltasModel_formed_207 : ai_find (ai_tab mGraphDeltasModel_formed) 207 = some (.iconst 0, 208, 0, 0, 0, .int (nI 0), []) := rfl
set_option maxRecDepth 20000 in theorem iGraphDeltasModel_formed_208 : ai_find (ai_tab mGraphDeltasModel_formed) 208 = some (.ireturn, 209, 1, 0, 0, .null, []) := rfl
theorem iGraphDeltasModel_inTheEnd_0 : ai_find (ai_tab mGraphDeltasModel_inTheEnd) 0 = some (.aload_n 0, 1, 0, 0, 0, .null, []) := rfl
theorem iGraphDeltasModel_inTheEnd_1 : ai_find (ai_tab mGraphDeltasModel_inTheEnd) 1 = some (.iload_n 1, 2, 1, 0, 0, .null, []) := rfl
theorem iGraphDeltasModel_inTheEnd_2 : ai_find (ai_tab mGraphDeltasModel_inTheEnd) 2 = some (.iload_n 2, 3, 2, 0, 0, .null, []) := rfl
theorem iGraphDeltasModel_inTheEnd_3 : ai_find (ai_tab mGraphDeltasModel_inTheEnd) 3 = some (.invokevirtual 105, 6, 146, 3, 1, .ref 7, []) := rfl
theorem iGraphDeltasModel_inTheEnd_6 : ai_find (ai_tab mGraphDeltasModel_inTheEnd) 6 = some (.i2l, 7, 0, 0, 0, .null, []) := rfl
theorem iGraphDeltasModel_inTheEnd_7 : ai_find (ai_tab mGraphDeltasModel_inTheEnd) 7 = some (.lstore_n 3, 8, 3, 0, 0, .null, []) := rfl
theorem iGraphDeltasModel_inTheEnd_8 : ai_find (ai_tab mGraphDeltasModel_inTheEnd) 8 = some (.iconst 0, 9, 0, 0, 0, .int (nI 0), []) := rfl
theorem iGraphDeltasModel_inTheEnd_9 : ai_find (ai_tab mGraphDeltasModel_inTheEnd) 9 = some (.istore 5, 11, 5, 0, 0, .null, []) := rfl
theorem iGraphDeltasModel_inTheEnd_11 : ai_find (ai_tab mGraphDeltasModel_inTheEnd) 11 = some (.iload 5, 13, 5, 0, 0, .null, []) := rfl
theorem iGraphDeltasModel_inTheEnd_13 : ai_find (ai_tab mGraphDeltasModel_inTheEnd) 13 = some (.aload_n 0, 14, 0, 0, 0, .null, []) := rfl
theorem iGraphDeltasModel_inTheEnd_14 : ai_find (ai_tab mGraphDeltasModel_inTheEnd) 14 = some (.getfield 31, 17, 7, 7, 0, .null, []) := rfl
theorem iGraphDeltasModel_inTheEnd_17 : ai_find (ai_tab mGraphDeltasModel_inTheEnd) 17 = some (.iconst 0, 18, 0, 0, 0, .int (nI 0), []) := rfl
theorem iGraphDeltasModel_inTheEnd_18 : ai_find (ai_tab mGraphDeltasModel_inTheEnd) 18 = some (.iaload, 19, 0, 0, 0, .null, []) := rfl
theorem iGraphDeltasModel_inTheEnd_19 : ai_find (ai_tab mGraphDeltasModel_inTheEnd) 19 = some (.if_icmp .ge 54, 22, 73, 0, 0, .null, []) := rfl
theorem iGraphDeltasModel_inTheEnd_22 : ai_find (ai_tab mGraphDeltasModel_inTheEnd) 22 = some (.aload_n 0, 23, 0, 0, 0, .null, []) := rfl
theorem iGraphDeltasModel_inTheEnd_23 : ai_find (ai_tab mGraphDeltasModel_inTheEnd) 23 = some (.getfield 34, 26, 7, 8, 0, .null, []) := rfl
theorem iGraphDeltasModel_inTheEnd_26 : ai_find (ai_tab mGraphDeltasModel_inTheEnd) 26 = some (.iload 5, 28, 5, 0, 0, .null, []) := rfl
theorem iGraphDeltasModel_inTheEnd_28 : ai_find (ai_tab mGraphDeltasModel_inTheEnd) 28 = some (.iaload, 29, 0, 0, 0, .null, []) := rfl
theorem iGraphDeltasModel_inTheEnd_29 : ai_find (ai_tab mGraphDeltasModel_inTheEnd) 29 = some (.iconst 3, 30, 0, 0, 0, .int (nI 3), []) := rfl
theorem iGraphDeltasModel_inTheEnd_30 : ai_find (ai_tab mGraphDeltasModel_inTheEnd) 30 = some (.if_icmp .ne 35, 33, 65, 0, 0, .null, []) := rfl
theorem iGraphDeltasModel_inTheEnd_33 : ai_find (ai_tab mGraphDeltasModel_inTheEnd) 33 = some (.aload_n 0, 34, 0, 0, 0, .null, []) := rfl
theorem iGraphDeltasModel_inTheEnd_34 : ai_find (ai_tab mGraphDeltasModel_inTheEnd) 34 = some (.getfield 37, 37, 7, 9, 0, .null, []) := rfl
theorem iGraphDeltasModel_inTheEnd_37 : ai_find (ai_tab mGraphDeltasModel_inTheEnd) 37 = some (.iload 5, 39, 5, 0, 0, .null, []) := rfl
theorem iGraphDeltasModel_inTheEnd_39 : ai_find (ai_tab mGraphDeltasModel_inTheEnd) 39 = some (.iaload, 40, 0, 0, 0, .null, []) := rfl
theorem iGraphDeltasModel_inTheEnd_40 : ai_find (ai_tab mGraphDeltasModel_inTheEnd) 40 = some (.iload_n 2, 41, 2, 0, 0, .null, []) := rfl
theorem iGraphDeltasModel_inTheEnd_41 : ai_find (ai_tab mGraphDeltasModel_inTheEnd) 41 = some (.if_icmp .ne 24, 44, 65, 0, 0, .null, []) := rfl
theorem iGraphDeltasModel_inTheEnd_44 : ai_find (ai_tab mGraphDeltasModel_inTheEnd) 44 = some (.lload_n 3, 45, 3, 0, 0, .null, []) := rfl
theorem iGraphDeltasModel_inTheEnd_45 : ai_find (ai_tab mGraphDeltasModel_inTheEnd) 45 = some (.aload_n 0, 46, 0, 0, 0, .null, []) := rfl
theorem iGraphDeltasModel_inTheEnd_46 : ai_find (ai_tab mGraphDeltasModel_inTheEnd) 46 = some (.getfield 43, 49, 7, 11, 0, .null, []) := rfl
theorem iGraphDeltasModel_inTheEnd_49 : ai_find (ai_tab mGraphDeltasModel_inTheEnd) 49 = some (.iload 5, 51, 5, 0, 0, .null, []) := rfl
theorem iGraphDeltasModel_inTheEnd_51 : ai_find (ai_tab mGraphDeltasModel_inTheEnd) 51 = some (.iaload, 52, 0, 0, 0, .null, []) := rfl
theorem iGraphDeltasModel_inTheEnd_52 : ai_find (ai_tab mGraphDeltasModel_inTheEnd) 52 = some (.i2l, 53, 0, 0, 0, .null, []) := rfl
theorem iGraphDeltasModel_inTheEnd_53 : ai_find (ai_tab mGraphDeltasModel_inTheEnd) 53 = some (.lsub, 54, 0, 0, 0, .null, []) := rfl
theorem iGraphDeltasModel_inTheEnd_54 : ai_find (ai_tab mGraphDeltasModel_inTheEnd) 54 = some (.aload_n 0, 55, 0, 0, 0, .null, []) := rfl
theorem iGraphDeltasModel_inTheEnd_55 : ai_find (ai_tab mGraphDeltasModel_inTheEnd) 55 = some (.getfield 46, 58, 7, 12, 0, .null, []) := rfl
theorem iGraphDeltasModel_inTheEnd_58 : ai_find (ai_tab mGraphDeltasModel_inTheEnd) 58 = some (.iload 5, 60, 5, 0, 0, .null, []) := rfl
theorem iGraphDeltasModel_inTheEnd_60 : ai_find (ai_tab mGraphDeltasModel_inTheEnd) 60 = some (.laload, 61, 0, 0, 0, .null, []) := rfl
theorem iGraphDeltasModel_inTheEnd_61 : ai_find (ai_tab mGraphDeltasModel_inTheEnd) 61 = some (.ladd, 62, 0, 0, 0, .null, []) := rfl
theorem iGraphDeltasModel_inTheEnd_62 : ai_find (ai_tab mGraphDeltasModel_inTheEnd) 62 = some (.goto 4, 65, 66, 0, 0, .null, []) := rfl
theorem iGraphDeltasModel_inTheEnd_65 : ai_find (ai_tab mGraphDeltasModel_inTheEnd) 65 = some (.lload_n 3, 66, 3, 0, 0, .null, []) := rfl
theorem iGraphDeltasModel_inTheEnd_66 : ai_find (ai_tab mGraphDeltasModel_inTheEnd) 66 = some (.lstore_n 3, 67, 3, 0, 0, .null, []) := rfl
theorem iGraphDeltasModel_inTheEnd_67 : ai_find (ai_tab mGraphDeltasModel_inTheEnd) 67 = some (.iinc 5 1, 70, 5, 0, 0, .int (nI 1), []) := rfl
theorem iGraphDeltasModel_inTheEnd_70 : ai_find (ai_tab mGraphDeltasModel_inTheEnd) 70 = some (.goto (-59), 73, 11, 0, 0, .null, []) := rfl
theorem iGraphDeltasModel_inTheEnd_73 : ai_find (ai_tab mGraphDeltasModel_inTheEnd) 73 = some (.lload_n 3, 74, 3, 0, 0, .null, []) := rfl
theorem iGraphDeltasModel_inTheEnd_74 : ai_find (ai_tab mGraphDeltasModel_inTheEnd) 74 = some (.lreturn, 75, 0, 0, 0, .null, []) := rfl
theorem iGraphDeltasModel_insert_0 : ai_find (ai_tab mGraphDeltasModel_insert) 0 = some (.aload_n 0, 1, 0, 0, 0, .null, []) := rfl
theorem iGraphDeltasModel_insert_1 : ai_find (ai_tab mGraphDeltasModel_insert) 1 = some (.iload_n 1, 2, 1, 0, 0, .null, []) := rfl
theorem iGraphDeltasModel_insert_2 : ai_find (ai_tab mGraphDeltasModel_insert) 2 = some (.invokevirtual 77, 5, 151, 2, 1, .ref 7, []) := rfl
theorem iGraphDeltasModel_insert_5 : ai_find (ai_tab mGraphDeltasModel_insert) 5 = some (.ifCond .eq 37, 8, 42, 0, 0, .null, []) := rfl
theorem iGraphDeltasModel_insert_8 : ai_find (ai_tab mGraphDeltasModel_insert) 8 = some (.aload_n 0, 9, 0, 0, 0, .null, []) := rfl
theorem iGraphDeltasModel_insert_9 : ai_find (ai_tab mGraphDeltasModel_insert) 9 = some (.getfield 13, 12, 7, 1, 0, .null, []) := rfl
theorem iGraphDeltasModel_insert_12 : ai_find (ai_tab mGraphDeltasModel_insert) 12 = some (.iload_n 1, 13, 1, 0, 0, .null, []) := rfl
theorem iGraphDeltasModel_insert_13 : ai_find (ai_tab mGraphDeltasModel_insert) 13 = some (.baload, 14, 0, 0, 0, .null, []) := rfl
theorem iGraphDeltasModel_insert_14 : ai_find (ai_tab mGraphDeltasModel_insert) 14 = some (.ifCond .eq 28, 17, 42, 0, 0, .null, []) := rfl
theorem iGraphDeltasModel_insert_17 : ai_find (ai_tab mGraphDeltasModel_insert) 17 = some (.aload_n 0, 18, 0, 0, 0, .null, []) := rfl
theorem iGraphDeltasModel_insert_18 : ai_find (ai_tab mGraphDeltasModel_insert) 18 = some (.getfield 20, 21, 7, 4, 0, .null, []) := rfl
theorem iGraphDeltasModel_insert_21 : ai_find (ai_tab mGraphDeltasModel_insert) 21 = some (.iload_n 1, 22, 1, 0, 0, .null, []) := rfl
theorem iGraphDeltasModel_insert_22 : ai_find (ai_tab mGraphDeltasModel_insert) 22 = some (.iaload, 23, 0, 0, 0, .null, []) := rfl
theorem iGraphDeltasModel_insert_23 : ai_find (ai_tab mGraphDeltasModel_insert) 23 = some (.bipush 6, 25, 0, 0, 0, .int (nI 6), []) := rfl
theorem iGraphDeltasModel_insert_25 : ai_find (ai_tab mGraphDeltasModel_insert) 25 = some (.if_icmp .eq 17, 28, 42, 0, 0, .null, []) := rfl
theorem iGraphDeltasModel_insert_28 : ai_find (ai_tab mGraphDeltasModel_insert) 28 = some (.iload_n 2, 29, 2, 0, 0, .null, []) := rfl
theorem iGraphDeltasModel_insert_29 : ai_find (ai_tab mGraphDeltasModel_insert) 29 = some (.ifCond .lt 13, 32, 42, 0, 0, .null, []) := rfl
theorem iGraphDeltasModel_insert_32 : ai_find (ai_tab mGraphDeltasModel_insert) 32 = some (.iload_n 2, 33, 2, 0, 0, .null, []) := rfl
theorem iGraphDeltasModel_insert_33 : ai_find (ai_tab mGraphDeltasModel_insert) 33 = some (.aload_n 0, 34, 0, 0, 0, .null, []) := rfl
theorem iGraphDeltasModel_insert_34 : ai_find (ai_tab mGraphDeltasModel_insert) 34 = some (.getfield 20, 37, 7, 4, 0, .null, []) := rfl
theorem iGraphDeltasModel_insert_37 : ai_find (ai_tab mGraphDeltasModel_insert) 37 = some (.iload_n 1, 38, 1, 0, 0, .null, []) := rfl
theorem iGraphDeltasModel_insert_38 : ai_find (ai_tab mGraphDeltasModel_insert) 38 = some (.iaload, 39, 0, 0, 0, .null, []) := rfl
theorem iGraphDeltasModel_insert_39 : ai_find (ai_tab mGraphDeltasModel_insert) 39 = some (.if_icmp .le 5, 42, 44, 0, 0, .null, []) := rfl
theorem iGraphDeltasModel_insert_42 : ai_find (ai_tab mGraphDeltasModel_insert) 42 = some (.iconst 0, 43, 0, 0, 0, .int (nI 0), []) := rfl
theorem iGraphDeltasModel_insert_43 : ai_find (ai_tab mGraphDeltasModel_insert) 43 = some (.ireturn, 44, 1, 0, 0, .null, []) := rfl
theorem iGraphDeltasModel_insert_44 : ai_find (ai_tab mGraphDeltasModel_insert) 44 = some (.aload_n 0, 45, 0, 0, 0, .null, []) := rfl
theorem iGraphDeltasModel_insert_45 : ai_find (ai_tab mGraphDeltasModel_insert) 45 = some (.getfield 20, 48, 7, 4, 0, .null, []) := rfl
theorem iGraphDeltasModel_insert_48 : ai_find (ai_tab mGraphDeltasModel_insert) 48 = some (.iload_n 1, 49, 1, 0, 0, .null, []) := rfl
theorem iGraphDeltasModel_insert_49 : ai_find (ai_tab mGraphDeltasModel_insert) 49 = some (.iaload, 50, 0, 0, 0, .null, []) := rfl
theorem iGraphDeltasModel_insert_50 : ai_find (ai_tab mGraphDeltasModel_insert) 50 = some (.istore 4, 52, 4, 0, 0, .null, []) := rfl
theorem iGraphDeltasModel_insert_52 : ai_find (ai_tab mGraphDeltasModel_insert) 52 = some (.iload 4, 54, 4, 0, 0, .null, []) := rfl
theorem iGraphDeltasModel_insert_54 : ai_find (ai_tab mGraphDeltasModel_insert) 54 = some (.iload_n 2, 55, 2, 0, 0, .null, []) := rfl
theorem iGraphDeltasModel_insert_55 : ai_find (ai_tab mGraphDeltasModel_insert) 55 = some (.if_icmp .le 35, 58, 90, 0, 0, .null, []) := rfl
theorem iGraphDeltasModel_insert_58 : ai_find (ai_tab mGraphDeltasModel_insert) 58 = some (.aload_n 0, 59, 0, 0, 0, .null, []) := rfl
theorem iGraphDeltasModel_insert_59 : ai_find (ai_tab mGraphDeltasModel_insert) 59 = some (.getfield 24, 62, 7, 5, 0, .null, []) := rfl
theorem iGraphDeltasModel_insert_62 : ai_find (ai_tab mGraphDeltasModel_insert) 62 = some (.bipush 6, 64, 0, 0, 0, .int (nI 6), []) := rfl
theorem iGraphDeltasModel_insert_64 : ai_find (ai_tab mGraphDeltasModel_insert) 64 = some (.iload_n 1, 65, 1, 0, 0, .null, []) := rfl
theorem iGraphDeltasModel_insert_65 : ai_find (ai_tab mGraphDeltasModel_insert) 65 = some (.imul, 66, 0, 0, 0, .null, []) := rfl
theorem iGraphDeltasModel_insert_66 : ai_find (ai_tab mGraphDeltasModel_insert) 66 = some (.iload 4, 68, 4, 0, 0, .null, []) := rfl
theorem iGraphDeltasModel_insert_68 : ai_find (ai_tab mGraphDeltasModel_insert) 68 = some (.iadd, 69, 0, 0, 0, .null, []) := rfl
theorem iGraphDeltasModel_insert_69 : ai_find (ai_tab mGraphDeltasModel_insert) 69 = some (.aload_n 0, 70, 0, 0, 0, .null, []) := rfl
theorem iGraphDeltasModel_insert_70 : ai_find (ai_tab mGraphDeltasModel_insert) 70 = some (.getfield 24, 73, 7, 5, 0, .null, []) := rfl
theorem iGraphDeltasModel_insert_73 : ai_find (ai_tab mGraphDeltasModel_insert) 73 = some (.bipush 6, 75, 0, 0, 0, .int (nI 6), []) := rfl
theorem iGraphDeltasModel_insert_75 : ai_find (ai_tab mGraphDeltasModel_insert) 75 = some (.iload_n 1, 76, 1, 0, 0, .null, []) := rfl
theorem iGraphDeltasModel_insert_76 : ai_find (ai_tab mGraphDeltasModel_insert) 76 = some (.imul, 77, 0, 0, 0, .null, []) := rfl
theorem iGraphDeltasModel_insert_77 : ai_find (ai_tab mGraphDeltasModel_insert) 77 = some (.iload 4, 79, 4, 0, 0, .null, []) := rfl
theorem iGraphDeltasModel_insert_79 : ai_find (ai_tab mGraphDeltasModel_insert) 79 = some (.iadd, 80, 0, 0, 0, .null, []) := rfl
theorem iGraphDeltasModel_insert_80 : ai_find (ai_tab mGraphDeltasModel_insert) 80 = some (.iconst 1, 81, 0, 0, 0, .int (nI 1), []) := rfl
theorem iGraphDeltasModel_insert_81 : ai_find (ai_tab mGraphDeltasModel_insert) 81 = some (.isub, 82, 0, 0, 0, .null, []) := rfl
theorem iGraphDeltasModel_insert_82 : ai_find (ai_tab mGraphDeltasModel_insert) 82 = some (.laload, 83, 0, 0, 0, .null, []) := rfl
theorem iGraphDeltasModel_insert_83 : ai_find (ai_tab mGraphDeltasModel_insert) 83 = some (.lastore, 84, 0, 0, 0, .null, []) := rfl
theorem iGraphDeltasModel_insert_84 : ai_find (ai_tab mGraphDeltasModel_insert) 84 = some (.iinc 4 (-1), 87, 4, 0, 0, .int (-1), []) := rfl
theorem iGraphDeltasModel_insert_87 : ai_find (ai_tab mGraphDeltasModel_insert) 87 = some (.goto (-35), 90, 52, 0, 0, .null, []) := rfl
theorem iGraphDeltasModel_insert_90 : ai_find (ai_tab mGraphDeltasModel_insert) 90 = some (.aload_n 0, 91, 0, 0, 0, .null, []) := rfl
theorem iGraphDeltasModel_insert_91 : ai_find (ai_tab mGraphDeltasModel_insert) 91 = some (.getfield 24, 94, 7, 5, 0, .null, []) := rfl
theorem iGraphDeltasModel_insert_94 : ai_find (ai_tab mGraphDeltasModel_insert) 94 = some (.bipush 6, 96, 0, 0, 0, .int (nI 6), []) := rfl
theorem iGraphDeltasModel_insert_96 : ai_find (ai_tab mGraphDeltasModel_insert) 96 = some (.iload_n 1, 97, 1, 0, 0, .null, []) := rfl
theorem iGraphDeltasModel_insert_97 : ai_find (ai_tab mGraphDeltasModel_insert) 97 = some (.imul, 98, 0, 0, 0, .null, []) := rfl
theorem iGraphDeltasModel_insert_98 : ai_find (ai_tab mGraphDeltasModel_insert) 98 = some (.iload_n 2, 99, 2, 0, 0, .null, []) := rfl
theorem iGraphDeltasModel_insert_99 : ai_find (ai_tab mGraphDeltasModel_insert) 99 = some (.iadd, 100, 0, 0, 0, .null, []) := rfl
theorem iGraphDeltasModel_insert_100 : ai_find (ai_tab mGraphDeltasModel_insert) 100 = some (.iload_n 3, 101, 3, 0, 0, .null, []) := rfl
set_option maxRecDepth 20000 in theorem iGraphDeltasModel_insert_101 : ai_find (ai_tab mGraphDeltasModel_insert) 101 = some (.i2l, 102, 0, 0, 0, .null, []) := rfl
set_option maxRecDepth 20000 in theorem iGraphDeltasModel_insert_102 : ai_find (ai_tab mGraphDeltasModel_insert) 102 = some (.lastore, 103, 0, 0, 0, .null, []) := rfl
set_option maxRecDepth 20000 in theorem iGraphDeltasModel_insert_103 : ai_find (ai_tab mGraphDeltasModel_insert) 103 = some (.aload_n 0, 104, 0, 0, 0, .null, []) := rfl
set_option maxRecDepth 20000 in theorem iGraphDeltasModel_insert_104 : ai_find (ai_tab mGraphDeltasModel_insert) 104 = some (.getfield 20, 107, 7, 4, 0, .null, []) := rfl
set_option maxRecDepth 20000 in theorem iGraphDeltasModel_insert_107 : ai_find (ai_tab mGraphDeltasModel_insert) 107 = some (.iload_n 1, 108, 1, 0, 0, .null, []) := rfl
set_option maxRecDepth 20000 in theorem iGraphDeltasModel_insert_108 : ai_find (ai_tab mGraphDeltasModel_insert) 108 = some (.dup2, 109, 0, 0, 0, .null, []) := rfl
set_option maxRecDepth 20000 in theorem iGraphDeltasModel_insert_109 : ai_find (ai_tab mGraphDeltasModel_insert) 109 = some (.iaload, 110, 0, 0, 0, .null, []) := rfl
set_option maxRecDepth 20000 in theorem iGraphDeltasModel_insert_110 : ai_find (ai_tab mGraphDeltasModel_insert) 110 = some (.iconst 1, 111, 0, 0, 0, .int (nI 1), []) := rfl
set_option maxRecDepth 20000 in theorem iGraphDeltasModel_insert_111 : ai_find (ai_tab mGraphDeltasModel_insert) 111 = some (.iadd, 112, 0, 0, 0, .null, []) := rfl
set_option maxRecDepth 20000 in theorem iGraphDeltasModel_insert_112 : ai_find (ai_tab mGraphDeltasModel_insert) 112 = some (.iastore, 113, 0, 0, 0, .null, []) := rfl
set_option maxRecDepth 20000 in theorem iGraphDeltasModel_insert_113 : ai_find (ai_tab mGraphDeltasModel_insert) 113 = some (.iconst 1, 114, 0, 0, 0, .int (nI 1), []) := rfl
set_option maxRecDepth 20000 in theorem iGraphDeltasModel_insert_114 : ai_find (ai_tab mGraphDeltasModel_insert) 114 = some (.ireturn, 115, 1, 0, 0, .null, []) := rfl
theorem iGraphDeltasModel_isObject_0 : ai_find (ai_tab mGraphDeltasModel_isObject) 0 = some (.iload_n 0, 1, 0, 0, 0, .null, []) := rfl
theorem iGraphDeltasModel_isObject_1 : ai_find (ai_tab mGraphDeltasModel_isObject) 1 = some (.ifCond .lt 13, 4, 14, 0, 0, .null, []) := rfl
theorem iGraphDeltasModel_isObject_4 : ai_find (ai_tab mGraphDeltasModel_isObject) 4 = some (.iload_n 0, 5, 0, 0, 0, .null, []) := rfl
theorem iGraphDeltasModel_isObject_5 : ai_find (ai_tab mGraphDeltasModel_isObject) 5 = some (.bipush 15, 7, 0, 0, 0, .int (nI 15), []) := rfl
theorem iGraphDeltasModel_isObject_7 : ai_find (ai_tab mGraphDeltasModel_isObject) 7 = some (.if_icmp .gt 7, 10, 14, 0, 0, .null, []) := rfl
theorem iGraphDeltasModel_isObject_10 : ai_find (ai_tab mGraphDeltasModel_isObject) 10 = some (.iconst 1, 11, 0, 0, 0, .int (nI 1), []) := rfl
theorem iGraphDeltasModel_isObject_11 : ai_find (ai_tab mGraphDeltasModel_isObject) 11 = some (.goto 4, 14, 15, 0, 0, .null, []) := rfl
theorem iGraphDeltasModel_isObject_14 : ai_find (ai_tab mGraphDeltasModel_isObject) 14 = some (.iconst 0, 15, 0, 0, 0, .int (nI 0), []) := rfl
theorem iGraphDeltasModel_isObject_15 : ai_find (ai_tab mGraphDeltasModel_isObject) 15 = some (.ireturn, 16, 1, 0, 0, .null, []) := rfl
theorem iGraphDeltasModel_isVersion_0 : ai_find (ai_tab mGraphDeltasModel_isVersion) 0 = some (.iload_n 1, 1, 1, 0, 0, .null, []) := rfl
theorem iGraphDeltasModel_isVersion_1 : ai_find (ai_tab mGraphDeltasModel_isVersion) 1 = some (.ifCond .lt 15, 4, 16, 0, 0, .null, []) := rfl
theorem iGraphDeltasModel_isVersion_4 : ai_find (ai_tab mGraphDeltasModel_isVersion) 4 = some (.iload_n 1, 5, 1, 0, 0, .null, []) := rfl
theorem iGraphDeltasModel_isVersion_5 : ai_find (ai_tab mGraphDeltasModel_isVersion) 5 = some (.aload_n 0, 6, 0, 0, 0, .null, []) := rfl
theorem iGraphDeltasModel_isVersion_6 : ai_find (ai_tab mGraphDeltasModel_isVersion) 6 = some (.getfield 88, 9, 7, 2, 0, .null, []) := rfl
theorem iGraphDeltasModel_isVersion_9 : ai_find (ai_tab mGraphDeltasModel_isVersion) 9 = some (.if_icmp .ge 7, 12, 16, 0, 0, .null, []) := rfl
theorem iGraphDeltasModel_isVersion_12 : ai_find (ai_tab mGraphDeltasModel_isVersion) 12 = some (.iconst 1, 13, 0, 0, 0, .int (nI 1), []) := rfl
theorem iGraphDeltasModel_isVersion_13 : ai_find (ai_tab mGraphDeltasModel_isVersion) 13 = some (.goto 4, 16, 17, 0, 0, .null, []) := rfl
theorem iGraphDeltasModel_isVersion_16 : ai_find (ai_tab mGraphDeltasModel_isVersion) 16 = some (.iconst 0, 17, 0, 0, 0, .int (nI 0), []) := rfl
theorem iGraphDeltasModel_isVersion_17 : ai_find (ai_tab mGraphDeltasModel_isVersion) 17 = some (.ireturn, 18, 1, 0, 0, .null, []) := rfl
theorem iGraphDeltasModel_items_0 : ai_find (ai_tab mGraphDeltasModel_items) 0 = some (.aload_n 0, 1, 0, 0, 0, .null, []) := rfl
theorem iGraphDeltasModel_items_1 : ai_find (ai_tab mGraphDeltasModel_items) 1 = some (.getfield 17, 4, 7, 3, 0, .null, []) := rfl
theorem iGraphDeltasModel_items_4 : ai_find (ai_tab mGraphDeltasModel_items) 4 = some (.bipush 16, 6, 0, 0, 0, .int (nI 16), []) := rfl
theorem iGraphDeltasModel_items_6 : ai_find (ai_tab mGraphDeltasModel_items) 6 = some (.iload_n 1, 7, 1, 0, 0, .null, []) := rfl
theorem iGraphDeltasModel_items_7 : ai_find (ai_tab mGraphDeltasModel_items) 7 = some (.imul, 8, 0, 0, 0, .null, []) := rfl
theorem iGraphDeltasModel_items_8 : ai_find (ai_tab mGraphDeltasModel_items) 8 = some (.iload_n 2, 9, 2, 0, 0, .null, []) := rfl
theorem iGraphDeltasModel_items_9 : ai_find (ai_tab mGraphDeltasModel_items) 9 = some (.iadd, 10, 0, 0, 0, .null, []) := rfl
theorem iGraphDeltasModel_items_10 : ai_find (ai_tab mGraphDeltasModel_items) 10 = some (.baload, 11, 0, 0, 0, .null, []) := rfl
theorem iGraphDeltasModel_items_11 : ai_find (ai_tab mGraphDeltasModel_items) 11 = some (.ifCond .eq 17, 14, 28, 0, 0, .null, []) := rfl
theorem iGraphDeltasModel_items_14 : ai_find (ai_tab mGraphDeltasModel_items) 14 = some (.aload_n 0, 15, 0, 0, 0, .null, []) := rfl
theorem iGraphDeltasModel_items_15 : ai_find (ai_tab mGraphDeltasModel_items) 15 = some (.getfield 20, 18, 7, 4, 0, .null, []) := rfl
theorem iGraphDeltasModel_items_18 : ai_find (ai_tab mGraphDeltasModel_items) 18 = some (.bipush 16, 20, 0, 0, 0, .int (nI 16), []) := rfl
theorem iGraphDeltasModel_items_20 : ai_find (ai_tab mGraphDeltasModel_items) 20 = some (.iload_n 1, 21, 1, 0, 0, .null, []) := rfl
theorem iGraphDeltasModel_items_21 : ai_find (ai_tab mGraphDeltasModel_items) 21 = some (.imul, 22, 0, 0, 0, .null, []) := rfl
theorem iGraphDeltasModel_items_22 : ai_find (ai_tab mGraphDeltasModel_items) 22 = some (.iload_n 2, 23, 2, 0, 0, .null, []) := rfl
theorem iGraphDeltasModel_items_23 : ai_find (ai_tab mGraphDeltasModel_items) 23 = some (.iadd, 24, 0, 0, 0, .null, []) := rfl
theorem iGraphDeltasModel_items_24 : ai_find (ai_tab mGraphDeltasModel_items) 24 = some (.iaload, 25, 0, 0, 0, .null, []) := rfl
theorem iGraphDeltasModel_items_25 : ai_find (ai_tab mGraphDeltasModel_items) 25 = some (.goto 4, 28, 29, 0, 0, .null, []) := rfl
theorem iGraphDeltasModel_items_28 : ai_find (ai_tab mGraphDeltasModel_items) 28 = some (.iconst 0, 29, 0, 0, 0, .int (nI 0), []) := rfl
theorem iGraphDeltasModel_items_29 : ai_find (ai_tab mGraphDeltasModel_items) 29 = some (.ireturn, 30, 0, 0, 0, .null, []) := rfl
theorem iGraphDeltasModel_join_0 : ai_find (ai_tab mGraphDeltasModel_join) 0 = some (.aload_n 0, 1, 0, 0, 0, .null, []) := rfl
theorem iGraphDeltasModel_join_1 : ai_find (ai_tab mGraphDeltasModel_join) 1 = some (.iconst 0, 2, 0, 0, 0, .int (nI 0), []) := rfl
theorem iGraphDeltasModel_join_2 : ai_find (ai_tab mGraphDeltasModel_join) 2 = some (.invokevirtual 131, 5, 134, 2, 1, .ref 7, []) := rfl
theorem iGraphDeltasModel_join_5 : ai_find (ai_tab mGraphDeltasModel_join) 5 = some (.sipush 130, 8, 0, 0, 0, .int (nI 130), []) := rfl
theorem iGraphDeltasModel_join_8 : ai_find (ai_tab mGraphDeltasModel_join) 8 = some (.istore_n 1, 9, 1, 0, 0, .null, []) := rfl
theorem iGraphDeltasModel_join_9 : ai_find (ai_tab mGraphDeltasModel_join) 9 = some (.sipush 260, 12, 0, 0, 0, .int (nI 260), []) := rfl
theorem iGraphDeltasModel_join_12 : ai_find (ai_tab mGraphDeltasModel_join) 12 = some (.istore_n 2, 13, 2, 0, 0, .null, []) := rfl
theorem iGraphDeltasModel_join_13 : ai_find (ai_tab mGraphDeltasModel_join) 13 = some (.iload_n 1, 14, 1, 0, 0, .null, []) := rfl
theorem iGraphDeltasModel_join_14 : ai_find (ai_tab mGraphDeltasModel_join) 14 = some (.aload_n 0, 15, 0, 0, 0, .null, []) := rfl
theorem iGraphDeltasModel_join_15 : ai_find (ai_tab mGraphDeltasModel_join) 15 = some (.getfield 31, 18, 7, 7, 0, .null, []) := rfl
theorem iGraphDeltasModel_join_18 : ai_find (ai_tab mGraphDeltasModel_join) 18 = some (.iconst 1, 19, 0, 0, 0, .int (nI 1), []) := rfl
theorem iGraphDeltasModel_join_19 : ai_find (ai_tab mGraphDeltasModel_join) 19 = some (.iaload, 20, 0, 0, 0, .null, []) := rfl
theorem iGraphDeltasModel_join_20 : ai_find (ai_tab mGraphDeltasModel_join) 20 = some (.iadd, 21, 0, 0, 0, .null, []) := rfl
theorem iGraphDeltasModel_join_21 : ai_find (ai_tab mGraphDeltasModel_join) 21 = some (.istore_n 3, 22, 3, 0, 0, .null, []) := rfl
theorem iGraphDeltasModel_join_22 : ai_find (ai_tab mGraphDeltasModel_join) 22 = some (.iload_n 2, 23, 2, 0, 0, .null, []) := rfl
theorem iGraphDeltasModel_join_23 : ai_find (ai_tab mGraphDeltasModel_join) 23 = some (.aload_n 0, 24, 0, 0, 0, .null, []) := rfl
theorem iGraphDeltasModel_join_24 : ai_find (ai_tab mGraphDeltasModel_join) 24 = some (.getfield 31, 27, 7, 7, 0, .null, []) := rfl
theorem iGraphDeltasModel_join_27 : ai_find (ai_tab mGraphDeltasModel_join) 27 = some (.iconst 2, 28, 0, 0, 0, .int (nI 2), []) := rfl
theorem iGraphDeltasModel_join_28 : ai_find (ai_tab mGraphDeltasModel_join) 28 = some (.iaload, 29, 0, 0, 0, .null, []) := rfl
theorem iGraphDeltasModel_join_29 : ai_find (ai_tab mGraphDeltasModel_join) 29 = some (.iadd, 30, 0, 0, 0, .null, []) := rfl
theorem iGraphDeltasModel_join_30 : ai_find (ai_tab mGraphDeltasModel_join) 30 = some (.istore 4, 32, 4, 0, 0, .null, []) := rfl
theorem iGraphDeltasModel_join_32 : ai_find (ai_tab mGraphDeltasModel_join) 32 = some (.iload_n 1, 33, 1, 0, 0, .null, []) := rfl
theorem iGraphDeltasModel_join_33 : ai_find (ai_tab mGraphDeltasModel_join) 33 = some (.iload_n 3, 34, 3, 0, 0, .null, []) := rfl
theorem iGraphDeltasModel_join_34 : ai_find (ai_tab mGraphDeltasModel_join) 34 = some (.if_icmp .lt 9, 37, 43, 0, 0, .null, []) := rfl
theorem iGraphDeltasModel_join_37 : ai_find (ai_tab mGraphDeltasModel_join) 37 = some (.iload_n 2, 38, 2, 0, 0, .null, []) := rfl
theorem iGraphDeltasModel_join_38 : ai_find (ai_tab mGraphDeltasModel_join) 38 = some (.iload 4, 40, 4, 0, 0, .null, []) := rfl
theorem iGraphDeltasModel_join_40 : ai_find (ai_tab mGraphDeltasModel_join) 40 = some (.if_icmp .ge 87, 43, 127, 0, 0, .null, []) := rfl
theorem iGraphDeltasModel_join_43 : ai_find (ai_tab mGraphDeltasModel_join) 43 = some (.iload_n 1, 44, 1, 0, 0, .null, []) := rfl
theorem iGraphDeltasModel_join_44 : ai_find (ai_tab mGraphDeltasModel_join) 44 = some (.iload_n 3, 45, 3, 0, 0, .null, []) := rfl
theorem iGraphDeltasModel_join_45 : ai_find (ai_tab mGraphDeltasModel_join) 45 = some (.if_icmp .ge 11, 48, 56, 0, 0, .null, []) := rfl
theorem iGraphDeltasModel_join_48 : ai_find (ai_tab mGraphDeltasModel_join) 48 = some (.aload_n 0, 49, 0, 0, 0, .null, []) := rfl
theorem iGraphDeltasModel_join_49 : ai_find (ai_tab mGraphDeltasModel_join) 49 = some (.iload_n 1, 50, 1, 0, 0, .null, []) := rfl
theorem iGraphDeltasModel_join_50 : ai_find (ai_tab mGraphDeltasModel_join) 50 = some (.invokevirtual 154, 53, 160, 2, 1, .ref 7, []) := rfl
theorem iGraphDeltasModel_join_53 : ai_find (ai_tab mGraphDeltasModel_join) 53 = some (.goto 5, 56, 58, 0, 0, .null, []) := rfl
theorem iGraphDeltasModel_join_56 : ai_find (ai_tab mGraphDeltasModel_join) 56 = some (.ldc 157, 58, 0, 0, 0, .int (nI 100000), []) := rfl
theorem iGraphDeltasModel_join_58 : ai_find (ai_tab mGraphDeltasModel_join) 58 = some (.istore 5, 60, 5, 0, 0, .null, []) := rfl
theorem iGraphDeltasModel_join_60 : ai_find (ai_tab mGraphDeltasModel_join) 60 = some (.iload_n 2, 61, 2, 0, 0, .null, []) := rfl
theorem iGraphDeltasModel_join_61 : ai_find (ai_tab mGraphDeltasModel_join) 61 = some (.iload 4, 63, 4, 0, 0, .null, []) := rfl
theorem iGraphDeltasModel_join_63 : ai_find (ai_tab mGraphDeltasModel_join) 63 = some (.if_icmp .ge 11, 66, 74, 0, 0, .null, []) := rfl
theorem iGraphDeltasModel_join_66 : ai_find (ai_tab mGraphDeltasModel_join) 66 = some (.aload_n 0, 67, 0, 0, 0, .null, []) := rfl
theorem iGraphDeltasModel_join_67 : ai_find (ai_tab mGraphDeltasModel_join) 67 = some (.iload_n 2, 68, 2, 0, 0, .null, []) := rfl
theorem iGraphDeltasModel_join_68 : ai_find (ai_tab mGraphDeltasModel_join) 68 = some (.invokevirtual 154, 71, 160, 2, 1, .ref 7, []) := rfl
theorem iGraphDeltasModel_join_71 : ai_find (ai_tab mGraphDeltasModel_join) 71 = some (.goto 5, 74, 76, 0, 0, .null, []) := rfl
theorem iGraphDeltasModel_join_74 : ai_find (ai_tab mGraphDeltasModel_join) 74 = some (.ldc 157, 76, 0, 0, 0, .int (nI 100000), []) := rfl
theorem iGraphDeltasModel_join_76 : ai_find (ai_tab mGraphDeltasModel_join) 76 = some (.istore 6, 78, 6, 0, 0, .null, []) := rfl
theorem iGraphDeltasModel_join_78 : ai_find (ai_tab mGraphDeltasModel_join) 78 = some (.aload_n 0, 79, 0, 0, 0, .null, []) := rfl
theorem iGraphDeltasModel_join_79 : ai_find (ai_tab mGraphDeltasModel_join) 79 = some (.iload 5, 81, 5, 0, 0, .null, []) := rfl
theorem iGraphDeltasModel_join_81 : ai_find (ai_tab mGraphDeltasModel_join) 81 = some (.iload 6, 83, 6, 0, 0, .null, []) := rfl
theorem iGraphDeltasModel_join_83 : ai_find (ai_tab mGraphDeltasModel_join) 83 = some (.if_icmp .gt 7, 86, 90, 0, 0, .null, []) := rfl
theorem iGraphDeltasModel_join_86 : ai_find (ai_tab mGraphDeltasModel_join) 86 = some (.iload_n 1, 87, 1, 0, 0, .null, []) := rfl
theorem iGraphDeltasModel_join_87 : ai_find (ai_tab mGraphDeltasModel_join) 87 = some (.goto 4, 90, 91, 0, 0, .null, []) := rfl
theorem iGraphDeltasModel_join_90 : ai_find (ai_tab mGraphDeltasModel_join) 90 = some (.iload_n 2, 91, 2, 0, 0, .null, []) := rfl
theorem iGraphDeltasModel_join_91 : ai_find (ai_tab mGraphDeltasModel_join) 91 = some (.invokevirtual 158, 94, 175, 2, 1, .ref 7, []) := rfl
theorem iGraphDeltasModel_join_94 : ai_find (ai_tab mGraphDeltasModel_join) 94 = some (.iload 5, 96, 5, 0, 0, .null, []) := rfl
theorem iGraphDeltasModel_join_96 : ai_find (ai_tab mGraphDeltasModel_join) 96 = some (.iload 6, 98, 6, 0, 0, .null, []) := rfl
theorem iGraphDeltasModel_join_98 : ai_find (ai_tab mGraphDeltasModel_join) 98 = some (.if_icmp .gt 9, 101, 107, 0, 0, .null, []) := rfl
theorem iGraphDeltasModel_join_101 : ai_find (ai_tab mGraphDeltasModel_join) 101 = some (.iload_n 1, 102, 1, 0, 0, .null, []) := rfl
theorem iGraphDeltasModel_join_102 : ai_find (ai_tab mGraphDeltasModel_join) 102 = some (.iconst 1, 103, 0, 0, 0, .int (nI 1), []) := rfl
theorem iGraphDeltasModel_join_103 : ai_find (ai_tab mGraphDeltasModel_join) 103 = some (.iadd, 104, 0, 0, 0, .null, []) := rfl
theorem iGraphDeltasModel_join_104 : ai_find (ai_tab mGraphDeltasModel_join) 104 = some (.goto 4, 107, 108, 0, 0, .null, []) := rfl
theorem iGraphDeltasModel_join_107 : ai_find (ai_tab mGraphDeltasModel_join) 107 = some (.iload_n 1, 108, 1, 0, 0, .null, []) := rfl
set_option maxRecDepth 20000 in theorem iGraphDeltasModel_join_108 : ai_find (ai_tab mGraphDeltasModel_join) 108 = some (.istore_n 1, 109, 1, 0, 0, .null, []) := rfl
set_option maxRecDepth 20000 in theorem iGraphDeltasModel_join_109 : ai_find (ai_tab mGraphDeltasModel_join) 109 = some (.iload 6, 111, 6, 0, 0, .null, []) := rfl
set_option maxRecDepth 20000 in theorem iGraphDeltasModel_join_111 : ai_find (ai_tab mGraphDeltasModel_join) 111 = some (.iload 5, 113, 5, 0, 0, .null, []) := rfl
set_option maxRecDepth 20000 in theorem iGraphDeltasModel_join_113 : ai_find (ai_tab mGraphDeltasModel_join) 113 = some (.if_icmp .gt 9, 116, 122, 0, 0, .null, []) := rfl
set_option maxRecDepth 20000 in theorem iGraphDeltasModel_join_116 : ai_find (ai_tab mGraphDeltasModel_join) 116 = some (.iload_n 2, 117, 2, 0, 0, .null, []) := rfl
set_option maxRecDepth 20000 in theorem iGraphDeltasModel_join_117 : ai_find (ai_tab mGraphDeltasModel_join) 117 = some (.iconst 1, 118, 0, 0, 0, .int (nI 1), []) := rfl
set_option maxRecDepth 20000 in theorem iGraphDeltasModel_join_118 : ai_find (ai_tab mGraphDeltasModel_join) 118 = some (.iadd, 119, 0, 0, 0, .null, []) := rfl
set_option maxRecDepth 20000 in theorem iGraphDeltasModel_join_119 : ai_find (ai_tab mGraphDeltasModel_join) 119 = some (.goto 4, 122, 123, 0, 0, .null, []) := rfl
set_option maxRecDepth 20000 in theorem iGraphDeltasModel_join_122 : ai_find (ai_tab mGraphDeltasModel_join) 122 = some (.iload_n 2, 123, 2, 0, 0, .null, []) := rfl
set_option maxRecDepth 20000 in theorem iGraphDeltasModel_join_123 : ai_find (ai_tab mGraphDeltasModel_join) 123 = some (.istore_n 2, 124, 2, 0, 0, .null, []) := rfl
set_option maxRecDepth 20000 in theorem iGraphDeltasModel_join_124 : ai_find (ai_tab mGraphDeltasModel_join) 124 = some (.goto (-92), 127, 32, 0, 0, .null, []) := rfl
set_option maxRecDepth 20000 in theorem iGraphDeltasModel_join_127 : ai_find (ai_tab mGraphDeltasModel_join) 127 = some (.return_, 128, 0, 0, 0, .null, []) := rfl
theorem iGraphDeltasModel_kept_0 : ai_find (ai_tab mGraphDeltasModel_kept) 0 = some (.iconst 0, 1, 0, 0, 0, .int (nI 0), []) := rfl
theorem iGraphDeltasModel_kept_1 : ai_find (ai_tab mGraphDeltasModel_kept) 1 = some (.istore 4, 3, 4, 0, 0, .null, []) := rfl
theorem iGraphDeltasModel_kept_3 : ai_find (ai_tab mGraphDeltasModel_kept) 3 = some (.iconst 1, 4, 0, 0, 0, .int (nI 1), []) := rfl
theorem iGraphDeltasModel_kept_4 : ai_find (ai_tab mGraphDeltasModel_kept) 4 = some (.istore 5, 6, 5, 0, 0, .null, []) := rfl
theorem iGraphDeltasModel_kept_6 : ai_find (ai_tab mGraphDeltasModel_kept) 6 = some (.iload 5, 8, 5, 0, 0, .null, []) := rfl
theorem iGraphDeltasModel_kept_8 : ai_find (ai_tab mGraphDeltasModel_kept) 8 = some (.iconst 1, 9, 0, 0, 0, .int (nI 1), []) := rfl
theorem iGraphDeltasModel_kept_9 : ai_find (ai_tab mGraphDeltasModel_kept) 9 = some (.aload_n 0, 10, 0, 0, 0, .null, []) := rfl
theorem iGraphDeltasModel_kept_10 : ai_find (ai_tab mGraphDeltasModel_kept) 10 = some (.iload_n 1, 11, 1, 0, 0, .null, []) := rfl
theorem iGraphDeltasModel_kept_11 : ai_find (ai_tab mGraphDeltasModel_kept) 11 = some (.iload_n 3, 12, 3, 0, 0, .null, []) := rfl
theorem iGraphDeltasModel_kept_12 : ai_find (ai_tab mGraphDeltasModel_kept) 12 = some (.invokevirtual 105, 15, 146, 3, 1, .ref 7, []) := rfl
theorem iGraphDeltasModel_kept_15 : ai_find (ai_tab mGraphDeltasModel_kept) 15 = some (.ishl, 16, 0, 0, 0, .null, []) := rfl
theorem iGraphDeltasModel_kept_16 : ai_find (ai_tab mGraphDeltasModel_kept) 16 = some (.if_icmp .ge 87, 19, 103, 0, 0, .null, []) := rfl
theorem iGraphDeltasModel_kept_19 : ai_find (ai_tab mGraphDeltasModel_kept) 19 = some (.aload_n 0, 20, 0, 0, 0, .null, []) := rfl
theorem iGraphDeltasModel_kept_20 : ai_find (ai_tab mGraphDeltasModel_kept) 20 = some (.iload_n 1, 21, 1, 0, 0, .null, []) := rfl
theorem iGraphDeltasModel_kept_21 : ai_find (ai_tab mGraphDeltasModel_kept) 21 = some (.iload_n 2, 22, 2, 0, 0, .null, []) := rfl
theorem iGraphDeltasModel_kept_22 : ai_find (ai_tab mGraphDeltasModel_kept) 22 = some (.iload_n 3, 23, 3, 0, 0, .null, []) := rfl
theorem iGraphDeltasModel_kept_23 : ai_find (ai_tab mGraphDeltasModel_kept) 23 = some (.iload 5, 25, 5, 0, 0, .null, []) := rfl
theorem iGraphDeltasModel_kept_25 : ai_find (ai_tab mGraphDeltasModel_kept) 25 = some (.invokevirtual 109, 28, 174, 5, 1, .ref 7, []) := rfl
theorem iGraphDeltasModel_kept_28 : ai_find (ai_tab mGraphDeltasModel_kept) 28 = some (.ifCond .eq 69, 31, 97, 0, 0, .null, []) := rfl
theorem iGraphDeltasModel_kept_31 : ai_find (ai_tab mGraphDeltasModel_kept) 31 = some (.iload 5, 33, 5, 0, 0, .null, []) := rfl
theorem iGraphDeltasModel_kept_33 : ai_find (ai_tab mGraphDeltasModel_kept) 33 = some (.iload 4, 35, 4, 0, 0, .null, []) := rfl
theorem iGraphDeltasModel_kept_35 : ai_find (ai_tab mGraphDeltasModel_kept) 35 = some (.ixor, 36, 0, 0, 0, .null, []) := rfl
theorem iGraphDeltasModel_kept_36 : ai_find (ai_tab mGraphDeltasModel_kept) 36 = some (.istore 6, 38, 6, 0, 0, .null, []) := rfl
theorem iGraphDeltasModel_kept_38 : ai_find (ai_tab mGraphDeltasModel_kept) 38 = some (.iload 5, 40, 5, 0, 0, .null, []) := rfl
theorem iGraphDeltasModel_kept_40 : ai_find (ai_tab mGraphDeltasModel_kept) 40 = some (.iload 6, 42, 6, 0, 0, .null, []) := rfl
theorem iGraphDeltasModel_kept_42 : ai_find (ai_tab mGraphDeltasModel_kept) 42 = some (.iand, 43, 0, 0, 0, .null, []) := rfl
theorem iGraphDeltasModel_kept_43 : ai_find (ai_tab mGraphDeltasModel_kept) 43 = some (.iload 6, 45, 6, 0, 0, .null, []) := rfl
theorem iGraphDeltasModel_kept_45 : ai_find (ai_tab mGraphDeltasModel_kept) 45 = some (.ineg, 46, 0, 0, 0, .null, []) := rfl
theorem iGraphDeltasModel_kept_46 : ai_find (ai_tab mGraphDeltasModel_kept) 46 = some (.iand, 47, 0, 0, 0, .null, []) := rfl
theorem iGraphDeltasModel_kept_47 : ai_find (ai_tab mGraphDeltasModel_kept) 47 = some (.ifCond .eq 7, 50, 54, 0, 0, .null, []) := rfl
theorem iGraphDeltasModel_kept_50 : ai_find (ai_tab mGraphDeltasModel_kept) 50 = some (.iconst 1, 51, 0, 0, 0, .int (nI 1), []) := rfl
theorem iGraphDeltasModel_kept_51 : ai_find (ai_tab mGraphDeltasModel_kept) 51 = some (.goto 4, 54, 55, 0, 0, .null, []) := rfl
theorem iGraphDeltasModel_kept_54 : ai_find (ai_tab mGraphDeltasModel_kept) 54 = some (.iconst 0, 55, 0, 0, 0, .int (nI 0), []) := rfl
theorem iGraphDeltasModel_kept_55 : ai_find (ai_tab mGraphDeltasModel_kept) 55 = some (.istore 7, 57, 7, 0, 0, .null, []) := rfl
theorem iGraphDeltasModel_kept_57 : ai_find (ai_tab mGraphDeltasModel_kept) 57 = some (.iload 5, 59, 5, 0, 0, .null, []) := rfl
theorem iGraphDeltasModel_kept_59 : ai_find (ai_tab mGraphDeltasModel_kept) 59 = some (.invokestatic 112, 62, 168, 1, 0, .null, []) := rfl
theorem iGraphDeltasModel_kept_62 : ai_find (ai_tab mGraphDeltasModel_kept) 62 = some (.iload 4, 64, 4, 0, 0, .null, []) := rfl
theorem iGraphDeltasModel_kept_64 : ai_find (ai_tab mGraphDeltasModel_kept) 64 = some (.invokestatic 112, 67, 168, 1, 0, .null, []) := rfl
theorem iGraphDeltasModel_kept_67 : ai_find (ai_tab mGraphDeltasModel_kept) 67 = some (.if_icmp .gt 21, 70, 88, 0, 0, .null, []) := rfl
theorem iGraphDeltasModel_kept_70 : ai_find (ai_tab mGraphDeltasModel_kept) 70 = some (.iload 5, 72, 5, 0, 0, .null, []) := rfl
theorem iGraphDeltasModel_kept_72 : ai_find (ai_tab mGraphDeltasModel_kept) 72 = some (.invokestatic 112, 75, 168, 1, 0, .null, []) := rfl
theorem iGraphDeltasModel_kept_75 : ai_find (ai_tab mGraphDeltasModel_kept) 75 = some (.iload 4, 77, 4, 0, 0, .null, []) := rfl
theorem iGraphDeltasModel_kept_77 : ai_find (ai_tab mGraphDeltasModel_kept) 77 = some (.invokestatic 112, 80, 168, 1, 0, .null, []) := rfl
theorem iGraphDeltasModel_kept_80 : ai_find (ai_tab mGraphDeltasModel_kept) 80 = some (.if_icmp .ne 13, 83, 93, 0, 0, .null, []) := rfl
theorem iGraphDeltasModel_kept_83 : ai_find (ai_tab mGraphDeltasModel_kept) 83 = some (.iload 7, 85, 7, 0, 0, .null, []) := rfl
theorem iGraphDeltasModel_kept_85 : ai_find (ai_tab mGraphDeltasModel_kept) 85 = some (.ifCond .eq 8, 88, 93, 0, 0, .null, []) := rfl
theorem iGraphDeltasModel_kept_88 : ai_find (ai_tab mGraphDeltasModel_kept) 88 = some (.iload 5, 90, 5, 0, 0, .null, []) := rfl
theorem iGraphDeltasModel_kept_90 : ai_find (ai_tab mGraphDeltasModel_kept) 90 = some (.goto 5, 93, 95, 0, 0, .null, []) := rfl
theorem iGraphDeltasModel_kept_93 : ai_find (ai_tab mGraphDeltasModel_kept) 93 = some (.iload 4, 95, 4, 0, 0, .null, []) := rfl
theorem iGraphDeltasModel_kept_95 : ai_find (ai_tab mGraphDeltasModel_kept) 95 = some (.istore 4, 97, 4, 0, 0, .null, []) := rfl
theorem iGraphDeltasModel_kept_97 : ai_find (ai_tab mGraphDeltasModel_kept) 97 = some (.iinc 5 1, 100, 5, 0, 0, .int (nI 1), []) := rfl
theorem iGraphDeltasModel_kept_100 : ai_find (ai_tab mGraphDeltasModel_kept) 100 = some (.goto (-94), 103, 6, 0, 0, .null, []) := rfl
theorem iGraphDeltasModel_kept_103 : ai_find (ai_tab mGraphDeltasModel_kept) 103 = some (.iload 4, 105, 4, 0, 0, .null, []) := rfl
theorem iGraphDeltasModel_kept_105 : ai_find (ai_tab mGraphDeltasModel_kept) 105 = some (.ireturn, 106, 0, 0, 0, .null, []) := rfl
theorem iGraphDeltasModel_kind_0 : ai_find (ai_tab mGraphDeltasModel_kind) 0 = some (.aload_n 0, 1, 0, 0, 0, .null, []) := rfl
theorem iGraphDeltasModel_kind_1 : ai_find (ai_tab mGraphDeltasModel_kind) 1 = some (.iload_n 1, 2, 1, 0, 0, .null, []) := rfl
theorem iGraphDeltasModel_kind_2 : ai_find (ai_tab mGraphDeltasModel_kind) 2 = some (.invokevirtual 77, 5, 151, 2, 1, .ref 7, []) := rfl
theorem iGraphDeltasModel_kind_5 : ai_find (ai_tab mGraphDeltasModel_kind) 5 = some (.ifCond .ne 7, 8, 12, 0, 0, .null, []) := rfl
theorem iGraphDeltasModel_kind_8 : ai_find (ai_tab mGraphDeltasModel_kind) 8 = some (.iconst (-1), 9, 0, 0, 0, .int (-1), []) := rfl
theorem iGraphDeltasModel_kind_9 : ai_find (ai_tab mGraphDeltasModel_kind) 9 = some (.goto 24, 12, 33, 0, 0, .null, []) := rfl
theorem iGraphDeltasModel_kind_12 : ai_find (ai_tab mGraphDeltasModel_kind) 12 = some (.aload_n 0, 13, 0, 0, 0, .null, []) := rfl
theorem iGraphDeltasModel_kind_13 : ai_find (ai_tab mGraphDeltasModel_kind) 13 = some (.getfield 13, 16, 7, 1, 0, .null, []) := rfl
theorem iGraphDeltasModel_kind_16 : ai_find (ai_tab mGraphDeltasModel_kind) 16 = some (.iload_n 1, 17, 1, 0, 0, .null, []) := rfl
theorem iGraphDeltasModel_kind_17 : ai_find (ai_tab mGraphDeltasModel_kind) 17 = some (.baload, 18, 0, 0, 0, .null, []) := rfl
theorem iGraphDeltasModel_kind_18 : ai_find (ai_tab mGraphDeltasModel_kind) 18 = some (.ifCond .eq 14, 21, 32, 0, 0, .null, []) := rfl
theorem iGraphDeltasModel_kind_21 : ai_find (ai_tab mGraphDeltasModel_kind) 21 = some (.iconst 1, 22, 0, 0, 0, .int (nI 1), []) := rfl
theorem iGraphDeltasModel_kind_22 : ai_find (ai_tab mGraphDeltasModel_kind) 22 = some (.aload_n 0, 23, 0, 0, 0, .null, []) := rfl
theorem iGraphDeltasModel_kind_23 : ai_find (ai_tab mGraphDeltasModel_kind) 23 = some (.getfield 20, 26, 7, 4, 0, .null, []) := rfl
theorem iGraphDeltasModel_kind_26 : ai_find (ai_tab mGraphDeltasModel_kind) 26 = some (.iload_n 1, 27, 1, 0, 0, .null, []) := rfl
theorem iGraphDeltasModel_kind_27 : ai_find (ai_tab mGraphDeltasModel_kind) 27 = some (.iaload, 28, 0, 0, 0, .null, []) := rfl
theorem iGraphDeltasModel_kind_28 : ai_find (ai_tab mGraphDeltasModel_kind) 28 = some (.iadd, 29, 0, 0, 0, .null, []) := rfl
theorem iGraphDeltasModel_kind_29 : ai_find (ai_tab mGraphDeltasModel_kind) 29 = some (.goto 4, 32, 33, 0, 0, .null, []) := rfl
theorem iGraphDeltasModel_kind_32 : ai_find (ai_tab mGraphDeltasModel_kind) 32 = some (.iconst 0, 33, 0, 0, 0, .int (nI 0), []) := rfl
theorem iGraphDeltasModel_kind_33 : ai_find (ai_tab mGraphDeltasModel_kind) 33 = some (.ireturn, 34, 0, 0, 0, .null, []) := rfl
theorem iGraphDeltasModel_link_0 : ai_find (ai_tab mGraphDeltasModel_link) 0 = some (.aload_n 0, 1, 0, 0, 0, .null, []) := rfl
theorem iGraphDeltasModel_link_1 : ai_find (ai_tab mGraphDeltasModel_link) 1 = some (.iload_n 1, 2, 1, 0, 0, .null, []) := rfl
theorem iGraphDeltasModel_link_2 : ai_find (ai_tab mGraphDeltasModel_link) 2 = some (.iload_n 2, 3, 2, 0, 0, .null, []) := rfl
theorem iGraphDeltasModel_link_3 : ai_find (ai_tab mGraphDeltasModel_link) 3 = some (.invokevirtual 80, 6, 169, 3, 1, .ref 7, []) := rfl
theorem iGraphDeltasModel_link_6 : ai_find (ai_tab mGraphDeltasModel_link) 6 = some (.ifCond .eq 16, 9, 22, 0, 0, .null, []) := rfl
theorem iGraphDeltasModel_link_9 : ai_find (ai_tab mGraphDeltasModel_link) 9 = some (.iload_n 3, 10, 3, 0, 0, .null, []) := rfl
theorem iGraphDeltasModel_link_10 : ai_find (ai_tab mGraphDeltasModel_link) 10 = some (.iconst (-1), 11, 0, 0, 0, .int (-1), []) := rfl
theorem iGraphDeltasModel_link_11 : ai_find (ai_tab mGraphDeltasModel_link) 11 = some (.if_icmp .eq 13, 14, 24, 0, 0, .null, []) := rfl
theorem iGraphDeltasModel_link_14 : ai_find (ai_tab mGraphDeltasModel_link) 14 = some (.aload_n 0, 15, 0, 0, 0, .null, []) := rfl
theorem iGraphDeltasModel_link_15 : ai_find (ai_tab mGraphDeltasModel_link) 15 = some (.iload_n 3, 16, 3, 0, 0, .null, []) := rfl
theorem iGraphDeltasModel_link_16 : ai_find (ai_tab mGraphDeltasModel_link) 16 = some (.invokevirtual 77, 19, 151, 2, 1, .ref 7, []) := rfl
theorem iGraphDeltasModel_link_19 : ai_find (ai_tab mGraphDeltasModel_link) 19 = some (.ifCond .ne 5, 22, 24, 0, 0, .null, []) := rfl
theorem iGraphDeltasModel_link_22 : ai_find (ai_tab mGraphDeltasModel_link) 22 = some (.iconst 0, 23, 0, 0, 0, .int (nI 0), []) := rfl
theorem iGraphDeltasModel_link_23 : ai_find (ai_tab mGraphDeltasModel_link) 23 = some (.ireturn, 24, 1, 0, 0, .null, []) := rfl
theorem iGraphDeltasModel_link_24 : ai_find (ai_tab mGraphDeltasModel_link) 24 = some (.aload_n 0, 25, 0, 0, 0, .null, []) := rfl
theorem iGraphDeltasModel_link_25 : ai_find (ai_tab mGraphDeltasModel_link) 25 = some (.getfield 24, 28, 7, 5, 0, .null, []) := rfl
theorem iGraphDeltasModel_link_28 : ai_find (ai_tab mGraphDeltasModel_link) 28 = some (.bipush 6, 30, 0, 0, 0, .int (nI 6), []) := rfl
theorem iGraphDeltasModel_link_30 : ai_find (ai_tab mGraphDeltasModel_link) 30 = some (.iload_n 1, 31, 1, 0, 0, .null, []) := rfl
theorem iGraphDeltasModel_link_31 : ai_find (ai_tab mGraphDeltasModel_link) 31 = some (.imul, 32, 0, 0, 0, .null, []) := rfl
theorem iGraphDeltasModel_link_32 : ai_find (ai_tab mGraphDeltasModel_link) 32 = some (.iload_n 2, 33, 2, 0, 0, .null, []) := rfl
theorem iGraphDeltasModel_link_33 : ai_find (ai_tab mGraphDeltasModel_link) 33 = some (.iadd, 34, 0, 0, 0, .null, []) := rfl
theorem iGraphDeltasModel_link_34 : ai_find (ai_tab mGraphDeltasModel_link) 34 = some (.iload_n 3, 35, 3, 0, 0, .null, []) := rfl
theorem iGraphDeltasModel_link_35 : ai_find (ai_tab mGraphDeltasModel_link) 35 = some (.iconst (-1), 36, 0, 0, 0, .int (-1), []) := rfl
theorem iGraphDeltasModel_link_36 : ai_find (ai_tab mGraphDeltasModel_link) 36 = some (.if_icmp .ne 9, 39, 45, 0, 0, .null, []) := rfl
theorem iGraphDeltasModel_link_39 : ai_find (ai_tab mGraphDeltasModel_link) 39 = some (.ldc2_w 71, 42, 0, 0, 0, .long 8589934592, []) := rfl
theorem iGraphDeltasModel_link_42 : ai_find (ai_tab mGraphDeltasModel_link) 42 = some (.goto 9, 45, 51, 0, 0, .null, []) := rfl
theorem iGraphDeltasModel_link_45 : ai_find (ai_tab mGraphDeltasModel_link) 45 = some (.ldc2_w 84, 48, 0, 0, 0, .long 4294967296, []) := rfl
theorem iGraphDeltasModel_link_48 : ai_find (ai_tab mGraphDeltasModel_link) 48 = some (.iload_n 3, 49, 3, 0, 0, .null, []) := rfl
theorem iGraphDeltasModel_link_49 : ai_find (ai_tab mGraphDeltasModel_link) 49 = some (.i2l, 50, 0, 0, 0, .null, []) := rfl
theorem iGraphDeltasModel_link_50 : ai_find (ai_tab mGraphDeltasModel_link) 50 = some (.ladd, 51, 0, 0, 0, .null, []) := rfl
theorem iGraphDeltasModel_link_51 : ai_find (ai_tab mGraphDeltasModel_link) 51 = some (.lastore, 52, 0, 0, 0, .null, []) := rfl
theorem iGraphDeltasModel_link_52 : ai_find (ai_tab mGraphDeltasModel_link) 52 = some (.iconst 1, 53, 0, 0, 0, .int (nI 1), []) := rfl
theorem iGraphDeltasModel_link_53 : ai_find (ai_tab mGraphDeltasModel_link) 53 = some (.ireturn, 54, 1, 0, 0, .null, []) := rfl
theorem iGraphDeltasModel_live_0 : ai_find (ai_tab mGraphDeltasModel_live) 0 = some (.iload_n 1, 1, 1, 0, 0, .null, []) := rfl
theorem iGraphDeltasModel_live_1 : ai_find (ai_tab mGraphDeltasModel_live) 1 = some (.invokestatic 73, 4, 144, 1, 0, .null, []) := rfl
theorem iGraphDeltasModel_live_4 : ai_find (ai_tab mGraphDeltasModel_live) 4 = some (.ifCond .eq 16, 7, 20, 0, 0, .null, []) := rfl
theorem iGraphDeltasModel_live_7 : ai_find (ai_tab mGraphDeltasModel_live) 7 = some (.aload_n 0, 8, 0, 0, 0, .null, []) := rfl
theorem iGraphDeltasModel_live_8 : ai_find (ai_tab mGraphDeltasModel_live) 8 = some (.getfield 17, 11, 7, 3, 0, .null, []) := rfl
theorem iGraphDeltasModel_live_11 : ai_find (ai_tab mGraphDeltasModel_live) 11 = some (.iload_n 1, 12, 1, 0, 0, .null, []) := rfl
theorem iGraphDeltasModel_live_12 : ai_find (ai_tab mGraphDeltasModel_live) 12 = some (.baload, 13, 0, 0, 0, .null, []) := rfl
theorem iGraphDeltasModel_live_13 : ai_find (ai_tab mGraphDeltasModel_live) 13 = some (.ifCond .eq 7, 16, 20, 0, 0, .null, []) := rfl
theorem iGraphDeltasModel_live_16 : ai_find (ai_tab mGraphDeltasModel_live) 16 = some (.iconst 1, 17, 0, 0, 0, .int (nI 1), []) := rfl
theorem iGraphDeltasModel_live_17 : ai_find (ai_tab mGraphDeltasModel_live) 17 = some (.goto 4, 20, 21, 0, 0, .null, []) := rfl
theorem iGraphDeltasModel_live_20 : ai_find (ai_tab mGraphDeltasModel_live) 20 = some (.iconst 0, 21, 0, 0, 0, .int (nI 0), []) := rfl
theorem iGraphDeltasModel_live_21 : ai_find (ai_tab mGraphDeltasModel_live) 21 = some (.ireturn, 22, 1, 0, 0, .null, []) := rfl
theorem iGraphDeltasModel_merge_0 : ai_find (ai_tab mGraphDeltasModel_merge) 0 = some (.aload_n 0, 1, 0, 0, 0, .null, []) := rfl
theorem iGraphDeltasModel_merge_1 : ai_find (ai_tab mGraphDeltasModel_merge) 1 = some (.iload_n 1, 2, 1, 0, 0, .null, []) := rfl
theorem iGraphDeltasModel_merge_2 : ai_find (ai_tab mGraphDeltasModel_merge) 2 = some (.invokevirtual 98, 5, 145, 2, 1, .ref 7, []) := rfl
theorem iGraphDeltasModel_merge_5 : ai_find (ai_tab mGraphDeltasModel_merge) 5 = some (.ifCond .eq 19, 8, 24, 0, 0, .null, []) := rfl
theorem iGraphDeltasModel_merge_8 : ai_find (ai_tab mGraphDeltasModel_merge) 8 = some (.aload_n 0, 9, 0, 0, 0, .null, []) := rfl
theorem iGraphDeltasModel_merge_9 : ai_find (ai_tab mGraphDeltasModel_merge) 9 = some (.iload_n 2, 10, 2, 0, 0, .null, []) := rfl
theorem iGraphDeltasModel_merge_10 : ai_find (ai_tab mGraphDeltasModel_merge) 10 = some (.invokevirtual 98, 13, 145, 2, 1, .ref 7, []) := rfl
theorem iGraphDeltasModel_merge_13 : ai_find (ai_tab mGraphDeltasModel_merge) 13 = some (.ifCond .eq 11, 16, 24, 0, 0, .null, []) := rfl
theorem iGraphDeltasModel_merge_16 : ai_find (ai_tab mGraphDeltasModel_merge) 16 = some (.aload_n 0, 17, 0, 0, 0, .null, []) := rfl
theorem iGraphDeltasModel_merge_17 : ai_find (ai_tab mGraphDeltasModel_merge) 17 = some (.iload_n 3, 18, 3, 0, 0, .null, []) := rfl
theorem iGraphDeltasModel_merge_18 : ai_find (ai_tab mGraphDeltasModel_merge) 18 = some (.invokevirtual 98, 21, 145, 2, 1, .ref 7, []) := rfl
theorem iGraphDeltasModel_merge_21 : ai_find (ai_tab mGraphDeltasModel_merge) 21 = some (.ifCond .ne 5, 24, 26, 0, 0, .null, []) := rfl
theorem iGraphDeltasModel_merge_24 : ai_find (ai_tab mGraphDeltasModel_merge) 24 = some (.iconst (-1), 25, 0, 0, 0, .int (-1), []) := rfl
theorem iGraphDeltasModel_merge_25 : ai_find (ai_tab mGraphDeltasModel_merge) 25 = some (.ireturn, 26, 0, 0, 0, .null, []) := rfl
theorem iGraphDeltasModel_merge_26 : ai_find (ai_tab mGraphDeltasModel_merge) 26 = some (.aload_n 0, 27, 0, 0, 0, .null, []) := rfl
theorem iGraphDeltasModel_merge_27 : ai_find (ai_tab mGraphDeltasModel_merge) 27 = some (.iconst 1, 28, 0, 0, 0, .int (nI 1), []) := rfl
theorem iGraphDeltasModel_merge_28 : ai_find (ai_tab mGraphDeltasModel_merge) 28 = some (.iload_n 1, 29, 1, 0, 0, .null, []) := rfl
theorem iGraphDeltasModel_merge_29 : ai_find (ai_tab mGraphDeltasModel_merge) 29 = some (.iconst 1, 30, 0, 0, 0, .int (nI 1), []) := rfl
theorem iGraphDeltasModel_merge_30 : ai_find (ai_tab mGraphDeltasModel_merge) 30 = some (.iadd, 31, 0, 0, 0, .null, []) := rfl
theorem iGraphDeltasModel_merge_31 : ai_find (ai_tab mGraphDeltasModel_merge) 31 = some (.iload_n 2, 32, 2, 0, 0, .null, []) := rfl
theorem iGraphDeltasModel_merge_32 : ai_find (ai_tab mGraphDeltasModel_merge) 32 = some (.iconst 1, 33, 0, 0, 0, .int (nI 1), []) := rfl
theorem iGraphDeltasModel_merge_33 : ai_find (ai_tab mGraphDeltasModel_merge) 33 = some (.iadd, 34, 0, 0, 0, .null, []) := rfl
theorem iGraphDeltasModel_merge_34 : ai_find (ai_tab mGraphDeltasModel_merge) 34 = some (.invokevirtual 141, 37, 133, 4, 1, .ref 7, []) := rfl
theorem iGraphDeltasModel_merge_37 : ai_find (ai_tab mGraphDeltasModel_merge) 37 = some (.aload_n 0, 38, 0, 0, 0, .null, []) := rfl
theorem iGraphDeltasModel_merge_38 : ai_find (ai_tab mGraphDeltasModel_merge) 38 = some (.iconst 2, 39, 0, 0, 0, .int (nI 2), []) := rfl
theorem iGraphDeltasModel_merge_39 : ai_find (ai_tab mGraphDeltasModel_merge) 39 = some (.iload_n 1, 40, 1, 0, 0, .null, []) := rfl
theorem iGraphDeltasModel_merge_40 : ai_find (ai_tab mGraphDeltasModel_merge) 40 = some (.iconst 1, 41, 0, 0, 0, .int (nI 1), []) := rfl
theorem iGraphDeltasModel_merge_41 : ai_find (ai_tab mGraphDeltasModel_merge) 41 = some (.iadd, 42, 0, 0, 0, .null, []) := rfl
theorem iGraphDeltasModel_merge_42 : ai_find (ai_tab mGraphDeltasModel_merge) 42 = some (.iload_n 3, 43, 3, 0, 0, .null, []) := rfl
theorem iGraphDeltasModel_merge_43 : ai_find (ai_tab mGraphDeltasModel_merge) 43 = some (.iconst 1, 44, 0, 0, 0, .int (nI 1), []) := rfl
theorem iGraphDeltasModel_merge_44 : ai_find (ai_tab mGraphDeltasModel_merge) 44 = some (.iadd, 45, 0, 0, 0, .null, []) := rfl
theorem iGraphDeltasModel_merge_45 : ai_find (ai_tab mGraphDeltasModel_merge) 45 = some (.invokevirtual 141, 48, 133, 4, 1, .ref 7, []) := rfl
theorem iGraphDeltasModel_merge_48 : ai_find (ai_tab mGraphDeltasModel_merge) 48 = some (.aload_n 0, 49, 0, 0, 0, .null, []) := rfl
theorem iGraphDeltasModel_merge_49 : ai_find (ai_tab mGraphDeltasModel_merge) 49 = some (.invokevirtual 161, 52, 138, 1, 1, .ref 7, []) := rfl
theorem iGraphDeltasModel_merge_52 : ai_find (ai_tab mGraphDeltasModel_merge) 52 = some (.aload_n 0, 53, 0, 0, 0, .null, []) := rfl
theorem iGraphDeltasModel_merge_53 : ai_find (ai_tab mGraphDeltasModel_merge) 53 = some (.getfield 148, 56, 7, 16, 0, .null, []) := rfl
theorem iGraphDeltasModel_merge_56 : ai_find (ai_tab mGraphDeltasModel_merge) 56 = some (.ifCond .ne 7, 59, 63, 0, 0, .null, []) := rfl
theorem iGraphDeltasModel_merge_59 : ai_find (ai_tab mGraphDeltasModel_merge) 59 = some (.aload_n 0, 60, 0, 0, 0, .null, []) := rfl
theorem iGraphDeltasModel_merge_60 : ai_find (ai_tab mGraphDeltasModel_merge) 60 = some (.invokevirtual 164, 63, 147, 1, 1, .ref 7, []) := rfl
theorem iGraphDeltasModel_merge_63 : ai_find (ai_tab mGraphDeltasModel_merge) 63 = some (.aload_n 0, 64, 0, 0, 0, .null, []) := rfl
theorem iGraphDeltasModel_merge_64 : ai_find (ai_tab mGraphDeltasModel_merge) 64 = some (.getfield 148, 67, 7, 16, 0, .null, []) := rfl
theorem iGraphDeltasModel_merge_67 : ai_find (ai_tab mGraphDeltasModel_merge) 67 = some (.ireturn, 68, 0, 0, 0, .null, []) := rfl
theorem iGraphDeltasModel_next_0 : ai_find (ai_tab mGraphDeltasModel_next) 0 = some (.aload_n 0, 1, 0, 0, 0, .null, []) := rfl
theorem iGraphDeltasModel_next_1 : ai_find (ai_tab mGraphDeltasModel_next) 1 = some (.getfield 213, 4, 7, 22, 0, .null, []) := rfl
theorem iGraphDeltasModel_next_4 : ai_find (ai_tab mGraphDeltasModel_next) 4 = some (.aload_n 0, 5, 0, 0, 0, .null, []) := rfl
theorem iGraphDeltasModel_next_5 : ai_find (ai_tab mGraphDeltasModel_next) 5 = some (.getfield 210, 8, 7, 18, 0, .null, []) := rfl
theorem iGraphDeltasModel_next_8 : ai_find (ai_tab mGraphDeltasModel_next) 8 = some (.if_icmp .lt 10, 11, 18, 0, 0, .null, []) := rfl
theorem iGraphDeltasModel_next_11 : ai_find (ai_tab mGraphDeltasModel_next) 11 = some (.aload_n 0, 12, 0, 0, 0, .null, []) := rfl
theorem iGraphDeltasModel_next_12 : ai_find (ai_tab mGraphDeltasModel_next) 12 = some (.iconst 0, 13, 0, 0, 0, .int (nI 0), []) := rfl
theorem iGraphDeltasModel_next_13 : ai_find (ai_tab mGraphDeltasModel_next) 13 = some (.putfield 216, 16, 7, 23, 1, .null, []) := rfl
theorem iGraphDeltasModel_next_16 : ai_find (ai_tab mGraphDeltasModel_next) 16 = some (.iconst 0, 17, 0, 0, 0, .int (nI 0), []) := rfl
theorem iGraphDeltasModel_next_17 : ai_find (ai_tab mGraphDeltasModel_next) 17 = some (.ireturn, 18, 0, 0, 0, .null, []) := rfl
theorem iGraphDeltasModel_next_18 : ai_find (ai_tab mGraphDeltasModel_next) 18 = some (.aload_n 0, 19, 0, 0, 0, .null, []) := rfl
theorem iGraphDeltasModel_next_19 : ai_find (ai_tab mGraphDeltasModel_next) 19 = some (.dup, 20, 0, 0, 0, .null, []) := rfl
theorem iGraphDeltasModel_next_20 : ai_find (ai_tab mGraphDeltasModel_next) 20 = some (.getfield 213, 23, 7, 22, 0, .null, []) := rfl
theorem iGraphDeltasModel_next_23 : ai_find (ai_tab mGraphDeltasModel_next) 23 = some (.iconst 1, 24, 0, 0, 0, .int (nI 1), []) := rfl
theorem iGraphDeltasModel_next_24 : ai_find (ai_tab mGraphDeltasModel_next) 24 = some (.iadd, 25, 0, 0, 0, .null, []) := rfl
theorem iGraphDeltasModel_next_25 : ai_find (ai_tab mGraphDeltasModel_next) 25 = some (.putfield 213, 28, 7, 22, 0, .null, []) := rfl
theorem iGraphDeltasModel_next_28 : ai_find (ai_tab mGraphDeltasModel_next) 28 = some (.aload_n 0, 29, 0, 0, 0, .null, []) := rfl
theorem iGraphDeltasModel_next_29 : ai_find (ai_tab mGraphDeltasModel_next) 29 = some (.getfield 61, 32, 7, 19, 0, .null, []) := rfl
theorem iGraphDeltasModel_next_32 : ai_find (ai_tab mGraphDeltasModel_next) 32 = some (.aload_n 0, 33, 0, 0, 0, .null, []) := rfl
theorem iGraphDeltasModel_next_33 : ai_find (ai_tab mGraphDeltasModel_next) 33 = some (.getfield 213, 36, 7, 22, 0, .null, []) := rfl
theorem iGraphDeltasModel_next_36 : ai_find (ai_tab mGraphDeltasModel_next) 36 = some (.iconst 1, 37, 0, 0, 0, .int (nI 1), []) := rfl
theorem iGraphDeltasModel_next_37 : ai_find (ai_tab mGraphDeltasModel_next) 37 = some (.isub, 38, 0, 0, 0, .null, []) := rfl
theorem iGraphDeltasModel_next_38 : ai_find (ai_tab mGraphDeltasModel_next) 38 = some (.iaload, 39, 0, 0, 0, .null, []) := rfl
theorem iGraphDeltasModel_next_39 : ai_find (ai_tab mGraphDeltasModel_next) 39 = some (.ireturn, 40, 0, 0, 0, .null, []) := rfl
theorem iGraphDeltasModel_nextVarint_0 : ai_find (ai_tab mGraphDeltasModel_nextVarint) 0 = some (.lconst 0, 1, 0, 0, 0, .long 0, []) := rfl
theorem iGraphDeltasModel_nextVarint_1 : ai_find (ai_tab mGraphDeltasModel_nextVarint) 1 = some (.lstore_n 1, 2, 1, 0, 0, .null, []) := rfl
theorem iGraphDeltasModel_nextVarint_2 : ai_find (ai_tab mGraphDeltasModel_nextVarint) 2 = some (.lconst 1, 3, 0, 0, 0, .long 1, []) := rfl
theorem iGraphDeltasModel_nextVarint_3 : ai_find (ai_tab mGraphDeltasModel_nextVarint) 3 = some (.lstore_n 3, 4, 3, 0, 0, .null, []) := rfl
theorem iGraphDeltasModel_nextVarint_4 : ai_find (ai_tab mGraphDeltasModel_nextVarint) 4 = some (.iconst 1, 5, 0, 0, 0, .int (nI 1), []) := rfl
theorem iGraphDeltasModel_nextVarint_5 : ai_find (ai_tab mGraphDeltasModel_nextVarint) 5 = some (.istore 5, 7, 5, 0, 0, .null, []) := rfl
theorem iGraphDeltasModel_nextVarint_7 : ai_find (ai_tab mGraphDeltasModel_nextVarint) 7 = some (.iconst 0, 8, 0, 0, 0, .int (nI 0), []) := rfl
theorem iGraphDeltasModel_nextVarint_8 : ai_find (ai_tab mGraphDeltasModel_nextVarint) 8 = some (.istore 6, 10, 6, 0, 0, .null, []) := rfl
theorem iGraphDeltasModel_nextVarint_10 : ai_find (ai_tab mGraphDeltasModel_nextVarint) 10 = some (.iload 6, 12, 6, 0, 0, .null, []) := rfl
theorem iGraphDeltasModel_nextVarint_12 : ai_find (ai_tab mGraphDeltasModel_nextVarint) 12 = some (.iconst 5, 13, 0, 0, 0, .int (nI 5), []) := rfl
theorem iGraphDeltasModel_nextVarint_13 : ai_find (ai_tab mGraphDeltasModel_nextVarint) 13 = some (.if_icmp .ge 53, 16, 66, 0, 0, .null, []) := rfl
theorem iGraphDeltasModel_nextVarint_16 : ai_find (ai_tab mGraphDeltasModel_nextVarint) 16 = some (.iload 5, 18, 5, 0, 0, .null, []) := rfl
theorem iGraphDeltasModel_nextVarint_18 : ai_find (ai_tab mGraphDeltasModel_nextVarint) 18 = some (.ifCond .eq 48, 21, 66, 0, 0, .null, []) := rfl
theorem iGraphDeltasModel_nextVarint_21 : ai_find (ai_tab mGraphDeltasModel_nextVarint) 21 = some (.aload_n 0, 22, 0, 0, 0, .null, []) := rfl
theorem iGraphDeltasModel_nextVarint_22 : ai_find (ai_tab mGraphDeltasModel_nextVarint) 22 = some (.invokevirtual 220, 25, 153, 1, 1, .ref 7, []) := rfl
theorem iGraphDeltasModel_nextVarint_25 : ai_find (ai_tab mGraphDeltasModel_nextVarint) 25 = some (.istore 7, 27, 7, 0, 0, .null, []) := rfl
theorem iGraphDeltasModel_nextVarint_27 : ai_find (ai_tab mGraphDeltasModel_nextVarint) 27 = some (.lload_n 1, 28, 1, 0, 0, .null, []) := rfl
theorem iGraphDeltasModel_nextVarint_28 : ai_find (ai_tab mGraphDeltasModel_nextVarint) 28 = some (.lload_n 3, 29, 3, 0, 0, .null, []) := rfl
theorem iGraphDeltasModel_nextVarint_29 : ai_find (ai_tab mGraphDeltasModel_nextVarint) 29 = some (.iload 7, 31, 7, 0, 0, .null, []) := rfl
theorem iGraphDeltasModel_nextVarint_31 : ai_find (ai_tab mGraphDeltasModel_nextVarint) 31 = some (.sipush 128, 34, 0, 0, 0, .int (nI 128), []) := rfl
theorem iGraphDeltasModel_nextVarint_34 : ai_find (ai_tab mGraphDeltasModel_nextVarint) 34 = some (.irem, 35, 0, 0, 0, .null, []) := rfl
theorem iGraphDeltasModel_nextVarint_35 : ai_find (ai_tab mGraphDeltasModel_nextVarint) 35 = some (.i2l, 36, 0, 0, 0, .null, []) := rfl
theorem iGraphDeltasModel_nextVarint_36 : ai_find (ai_tab mGraphDeltasModel_nextVarint) 36 = some (.lmul, 37, 0, 0, 0, .null, []) := rfl
theorem iGraphDeltasModel_nextVarint_37 : ai_find (ai_tab mGraphDeltasModel_nextVarint) 37 = some (.ladd, 38, 0, 0, 0, .null, []) := rfl
theorem iGraphDeltasModel_nextVarint_38 : ai_find (ai_tab mGraphDeltasModel_nextVarint) 38 = some (.lstore_n 1, 39, 1, 0, 0, .null, []) := rfl
theorem iGraphDeltasModel_nextVarint_39 : ai_find (ai_tab mGraphDeltasModel_nextVarint) 39 = some (.lload_n 3, 40, 3, 0, 0, .null, []) := rfl
theorem iGraphDeltasModel_nextVarint_40 : ai_find (ai_tab mGraphDeltasModel_nextVarint) 40 = some (.ldc2_w 198, 43, 0, 0, 0, .long 128, []) := rfl
theorem iGraphDeltasModel_nextVarint_43 : ai_find (ai_tab mGraphDeltasModel_nextVarint) 43 = some (.lmul, 44, 0, 0, 0, .null, []) := rfl
theorem iGraphDeltasModel_nextVarint_44 : ai_find (ai_tab mGraphDeltasModel_nextVarint) 44 = some (.lstore_n 3, 45, 3, 0, 0, .null, []) := rfl
theorem iGraphDeltasModel_nextVarint_45 : ai_find (ai_tab mGraphDeltasModel_nextVarint) 45 = some (.iload 7, 47, 7, 0, 0, .null, []) := rfl
theorem iGraphDeltasModel_nextVarint_47 : ai_find (ai_tab mGraphDeltasModel_nextVarint) 47 = some (.sipush 128, 50, 0, 0, 0, .int (nI 128), []) := rfl
theorem iGraphDeltasModel_nextVarint_50 : ai_find (ai_tab mGraphDeltasModel_nextVarint) 50 = some (.if_icmp .lt 7, 53, 57, 0, 0, .null, []) := rfl
theorem iGraphDeltasModel_nextVarint_53 : ai_find (ai_tab mGraphDeltasModel_nextVarint) 53 = some (.iconst 1, 54, 0, 0, 0, .int (nI 1), []) := rfl
theorem iGraphDeltasModel_nextVarint_54 : ai_find (ai_tab mGraphDeltasModel_nextVarint) 54 = some (.goto 4, 57, 58, 0, 0, .null, []) := rfl
theorem iGraphDeltasModel_nextVarint_57 : ai_find (ai_tab mGraphDeltasModel_nextVarint) 57 = some (.iconst 0, 58, 0, 0, 0, .int (nI 0), []) := rfl
theorem iGraphDeltasModel_nextVarint_58 : ai_find (ai_tab mGraphDeltasModel_nextVarint) 58 = some (.istore 5, 60, 5, 0, 0, .null, []) := rfl
theorem iGraphDeltasModel_nextVarint_60 : ai_find (ai_tab mGraphDeltasModel_nextVarint) 60 = some (.iinc 6 1, 63, 6, 0, 0, .int (nI 1), []) := rfl
theorem iGraphDeltasModel_nextVarint_63 : ai_find (ai_tab mGraphDeltasModel_nextVarint) 63 = some (.goto (-53), 66, 10, 0, 0, .null, []) := rfl
theorem iGraphDeltasModel_nextVarint_66 : ai_find (ai_tab mGraphDeltasModel_nextVarint) 66 = some (.aload_n 0, 67, 0, 0, 0, .null, []) := rfl
theorem iGraphDeltasModel_nextVarint_67 : ai_find (ai_tab mGraphDeltasModel_nextVarint) 67 = some (.aload_n 0, 68, 0, 0, 0, .null, []) := rfl
theorem iGraphDeltasModel_nextVarint_68 : ai_find (ai_tab mGraphDeltasModel_nextVarint) 68 = some (.getfield 216, 71, 7, 23, 0, .null, []) := rfl
theorem iGraphDeltasModel_nextVarint_71 : ai_find (ai_tab mGraphDeltasModel_nextVarint) 71 = some (.ifCond .eq 20, 74, 91, 0, 0, .null, []) := rfl
theorem iGraphDeltasModel_nextVarint_74 : ai_find (ai_tab mGraphDeltasModel_nextVarint) 74 = some (.iload 5, 76, 5, 0, 0, .null, []) := rfl
theorem iGraphDeltasModel_nextVarint_76 : ai_find (ai_tab mGraphDeltasModel_nextVarint) 76 = some (.ifCond .ne 15, 79, 91, 0, 0, .null, []) := rfl
theorem iGraphDeltasModel_nextVarint_79 : ai_find (ai_tab mGraphDeltasModel_nextVarint) 79 = some (.lload_n 1, 80, 1, 0, 0, .null, []) := rfl
theorem iGraphDeltasModel_nextVarint_80 : ai_find (ai_tab mGraphDeltasModel_nextVarint) 80 = some (.ldc2_w 224, 83, 0, 0, 0, .long 4294967295, []) := rfl
theorem iGraphDeltasModel_nextVarint_83 : ai_find (ai_tab mGraphDeltasModel_nextVarint) 83 = some (.lcmp, 84, 0, 0, 0, .null, []) := rfl
theorem iGraphDeltasModel_nextVarint_84 : ai_find (ai_tab mGraphDeltasModel_nextVarint) 84 = some (.ifCond .gt 7, 87, 91, 0, 0, .null, []) := rfl
theorem iGraphDeltasModel_nextVarint_87 : ai_find (ai_tab mGraphDeltasModel_nextVarint) 87 = some (.iconst 1, 88, 0, 0, 0, .int (nI 1), []) := rfl
theorem iGraphDeltasModel_nextVarint_88 : ai_find (ai_tab mGraphDeltasModel_nextVarint) 88 = some (.goto 4, 91, 92, 0, 0, .null, []) := rfl
theorem iGraphDeltasModel_nextVarint_91 : ai_find (ai_tab mGraphDeltasModel_nextVarint) 91 = some (.iconst 0, 92, 0, 0, 0, .int (nI 0), []) := rfl
theorem iGraphDeltasModel_nextVarint_92 : ai_find (ai_tab mGraphDeltasModel_nextVarint) 92 = some (.putfield 216, 95, 7, 23, 1, .null, []) := rfl
theorem iGraphDeltasModel_nextVarint_95 : ai_find (ai_tab mGraphDeltasModel_nextVarint) 95 = some (.lload_n 1, 96, 1, 0, 0, .null, []) := rfl
theorem iGraphDeltasModel_nextVarint_96 : ai_find (ai_tab mGraphDeltasModel_nextVarint) 96 = some (.ldc2_w 194, 99, 0, 0, 0, .long 2, []) := rfl
theorem iGraphDeltasModel_nextVarint_99 : ai_find (ai_tab mGraphDeltasModel_nextVarint) 99 = some (.lrem, 100, 0, 0, 0, .null, []) := rfl
theorem iGraphDeltasModel_nextVarint_100 : ai_find (ai_tab mGraphDeltasModel_nextVarint) 100 = some (.lconst 0, 101, 0, 0, 0, .long 0, []) := rfl
theorem iGraphDeltasModel_nextVarint_101 : ai_find (ai_tab mGraphDeltasModel_nextVarint) 101 = some (.lcmp, 102, 0, 0, 0, .null, []) := rfl
theorem iGraphDeltasModel_nextVarint_102 : ai_find (ai_tab mGraphDeltasModel_nextVarint) 102 = some (.ifCond .ne 11, 105, 113, 0, 0, .null, []) := rfl
theorem iGraphDeltasModel_nextVarint_105 : ai_find (ai_tab mGraphDeltasModel_nextVarint) 105 = some (.lload_n 1, 106, 1, 0, 0, .null, []) := rfl
theorem iGraphDeltasModel_nextVarint_106 : ai_find (ai_tab mGraphDeltasModel_nextVarint) 106 = some (.ldc2_w 194, 109, 0, 0, 0, .long 2, []) := rfl
theorem iGraphDeltasModel_nextVarint_109 : ai_find (ai_tab mGraphDeltasModel_nextVarint) 109 = some (.ldiv, 110, 0, 0, 0, .null, []) := rfl
set_option maxRecDepth 20000 in theorem iGraphDeltasModel_nextVarint_110 : ai_find (ai_tab mGraphDeltasModel_nextVarint) 110 = some (.goto 11, 113, 121, 0, 0, .null, []) := rfl
set_option maxRecDepth 20000 in theorem iGraphDeltasModel_nextVarint_113 : ai_find (ai_tab mGraphDeltasModel_nextVarint) 113 = some (.lload_n 1, 114, 1, 0, 0, .null, []) := rfl
set_option maxRecDepth 20000 in theorem iGraphDeltasModel_nextVarint_114 : ai_find (ai_tab mGraphDeltasModel_nextVarint) 114 = some (.ldc2_w 194, 117, 0, 0, 0, .long 2, []) := rfl
set_option maxRecDepth 20000 in theorem iGraphDeltasModel_nextVarint_117 : ai_find (ai_tab mGraphDeltasModel_nextVarint) 117 = some (.ldiv, 118, 0, 0, 0, .null, []) := rfl
set_option maxRecDepth 20000 in theorem iGraphDeltasModel_nextVarint_118 : ai_find (ai_tab mGraphDeltasModel_nextVarint) 118 = some (.lneg, 119, 0, 0, 0, .null, []) := rfl
set_option maxRecDepth 20000 in theorem iGraphDeltasModel_nextVarint_119 : ai_find (ai_tab mGraphDeltasModel_nextVarint) 119 = some (.lconst 1, 120, 0, 0, 0, .long 1, []) := rfl
set_option maxRecDepth 20000 in theorem iGraphDeltasModel_nextVarint_120 : ai_find (ai_tab mGraphDeltasModel_nextVarint) 120 = some (.lsub, 121, 0, 0, 0, .null, []) := rfl
set_option maxRecDepth 20000 in theorem iGraphDeltasModel_nextVarint_121 : ai_find (ai_tab mGraphDeltasModel_nextVarint) 121 = some (.l2i, 122, 0, 0, 0, .null, []) := rfl
set_option maxRecDepth 20000 in theorem iGraphDeltasModel_nextVarint_122 : ai_find (ai_tab mGraphDeltasModel_nextVarint) 122 = some (.ireturn, 123, 0, 0, 0, .null, []) := rfl
theorem iGraphDeltasModel_node_0 : ai_find (ai_tab mGraphDeltasModel_node) 0 = some (.aload_n 0, 1, 0, 0, 0, .null, []) := rfl
theorem iGraphDeltasModel_node_1 : ai_find (ai_tab mGraphDeltasModel_node) 1 = some (.getfield 7, 4, 7, 0, 0, .null, []) := rfl
theorem iGraphDeltasModel_node_4 : ai_find (ai_tab mGraphDeltasModel_node) 4 = some (.bipush 16, 6, 0, 0, 0, .int (nI 16), []) := rfl
theorem iGraphDeltasModel_node_6 : ai_find (ai_tab mGraphDeltasModel_node) 6 = some (.if_icmp .ne 6, 9, 12, 0, 0, .null, []) := rfl
theorem iGraphDeltasModel_node_9 : ai_find (ai_tab mGraphDeltasModel_node) 9 = some (.bipush (-2), 11, 0, 0, 0, .int (-2), []) := rfl
theorem iGraphDeltasModel_node_11 : ai_find (ai_tab mGraphDeltasModel_node) 11 = some (.ireturn, 12, 0, 0, 0, .null, []) := rfl
theorem iGraphDeltasModel_node_12 : ai_find (ai_tab mGraphDeltasModel_node) 12 = some (.aload_n 0, 13, 0, 0, 0, .null, []) := rfl
theorem iGraphDeltasModel_node_13 : ai_find (ai_tab mGraphDeltasModel_node) 13 = some (.getfield 13, 16, 7, 1, 0, .null, []) := rfl
theorem iGraphDeltasModel_node_16 : ai_find (ai_tab mGraphDeltasModel_node) 16 = some (.aload_n 0, 17, 0, 0, 0, .null, []) := rfl
theorem iGraphDeltasModel_node_17 : ai_find (ai_tab mGraphDeltasModel_node) 17 = some (.getfield 7, 20, 7, 0, 0, .null, []) := rfl
theorem iGraphDeltasModel_node_20 : ai_find (ai_tab mGraphDeltasModel_node) 20 = some (.iload_n 1, 21, 1, 0, 0, .null, []) := rfl
theorem iGraphDeltasModel_node_21 : ai_find (ai_tab mGraphDeltasModel_node) 21 = some (.bastore, 22, 0, 0, 0, .null, []) := rfl
theorem iGraphDeltasModel_node_22 : ai_find (ai_tab mGraphDeltasModel_node) 22 = some (.aload_n 0, 23, 0, 0, 0, .null, []) := rfl
theorem iGraphDeltasModel_node_23 : ai_find (ai_tab mGraphDeltasModel_node) 23 = some (.getfield 17, 26, 7, 3, 0, .null, []) := rfl
theorem iGraphDeltasModel_node_26 : ai_find (ai_tab mGraphDeltasModel_node) 26 = some (.aload_n 0, 27, 0, 0, 0, .null, []) := rfl
theorem iGraphDeltasModel_node_27 : ai_find (ai_tab mGraphDeltasModel_node) 27 = some (.getfield 7, 30, 7, 0, 0, .null, []) := rfl
theorem iGraphDeltasModel_node_30 : ai_find (ai_tab mGraphDeltasModel_node) 30 = some (.iconst 1, 31, 0, 0, 0, .int (nI 1), []) := rfl
theorem iGraphDeltasModel_node_31 : ai_find (ai_tab mGraphDeltasModel_node) 31 = some (.bastore, 32, 0, 0, 0, .null, []) := rfl
theorem iGraphDeltasModel_node_32 : ai_find (ai_tab mGraphDeltasModel_node) 32 = some (.aload_n 0, 33, 0, 0, 0, .null, []) := rfl
theorem iGraphDeltasModel_node_33 : ai_find (ai_tab mGraphDeltasModel_node) 33 = some (.aload_n 0, 34, 0, 0, 0, .null, []) := rfl
theorem iGraphDeltasModel_node_34 : ai_find (ai_tab mGraphDeltasModel_node) 34 = some (.getfield 7, 37, 7, 0, 0, .null, []) := rfl
theorem iGraphDeltasModel_node_37 : ai_find (ai_tab mGraphDeltasModel_node) 37 = some (.invokevirtual 67, 40, 126, 2, 1, .ref 7, []) := rfl
theorem iGraphDeltasModel_node_40 : ai_find (ai_tab mGraphDeltasModel_node) 40 = some (.aload_n 0, 41, 0, 0, 0, .null, []) := rfl
theorem iGraphDeltasModel_node_41 : ai_find (ai_tab mGraphDeltasModel_node) 41 = some (.dup, 42, 0, 0, 0, .null, []) := rfl
theorem iGraphDeltasModel_node_42 : ai_find (ai_tab mGraphDeltasModel_node) 42 = some (.getfield 7, 45, 7, 0, 0, .null, []) := rfl
theorem iGraphDeltasModel_node_45 : ai_find (ai_tab mGraphDeltasModel_node) 45 = some (.iconst 1, 46, 0, 0, 0, .int (nI 1), []) := rfl
theorem iGraphDeltasModel_node_46 : ai_find (ai_tab mGraphDeltasModel_node) 46 = some (.iadd, 47, 0, 0, 0, .null, []) := rfl
theorem iGraphDeltasModel_node_47 : ai_find (ai_tab mGraphDeltasModel_node) 47 = some (.putfield 7, 50, 7, 0, 0, .null, []) := rfl
theorem iGraphDeltasModel_node_50 : ai_find (ai_tab mGraphDeltasModel_node) 50 = some (.aload_n 0, 51, 0, 0, 0, .null, []) := rfl
theorem iGraphDeltasModel_node_51 : ai_find (ai_tab mGraphDeltasModel_node) 51 = some (.getfield 7, 54, 7, 0, 0, .null, []) := rfl
theorem iGraphDeltasModel_node_54 : ai_find (ai_tab mGraphDeltasModel_node) 54 = some (.iconst 1, 55, 0, 0, 0, .int (nI 1), []) := rfl
theorem iGraphDeltasModel_node_55 : ai_find (ai_tab mGraphDeltasModel_node) 55 = some (.isub, 56, 0, 0, 0, .null, []) := rfl
theorem iGraphDeltasModel_node_56 : ai_find (ai_tab mGraphDeltasModel_node) 56 = some (.ireturn, 57, 0, 0, 0, .null, []) := rfl
theorem iGraphDeltasModel_operation_0 : ai_find (ai_tab mGraphDeltasModel_operation) 0 = some (.iload_n 1, 1, 1, 0, 0, .null, []) := rfl
theorem iGraphDeltasModel_operation_1 : ai_find (ai_tab mGraphDeltasModel_operation) 1 = some (.ifCond .lt 17, 4, 18, 0, 0, .null, []) := rfl
theorem iGraphDeltasModel_operation_4 : ai_find (ai_tab mGraphDeltasModel_operation) 4 = some (.iload_n 1, 5, 1, 0, 0, .null, []) := rfl
theorem iGraphDeltasModel_operation_5 : ai_find (ai_tab mGraphDeltasModel_operation) 5 = some (.aload_n 0, 6, 0, 0, 0, .null, []) := rfl
theorem iGraphDeltasModel_operation_6 : ai_find (ai_tab mGraphDeltasModel_operation) 6 = some (.getfield 31, 9, 7, 7, 0, .null, []) := rfl
theorem iGraphDeltasModel_operation_9 : ai_find (ai_tab mGraphDeltasModel_operation) 9 = some (.iconst 0, 10, 0, 0, 0, .int (nI 0), []) := rfl
theorem iGraphDeltasModel_operation_10 : ai_find (ai_tab mGraphDeltasModel_operation) 10 = some (.iaload, 11, 0, 0, 0, .null, []) := rfl
theorem iGraphDeltasModel_operation_11 : ai_find (ai_tab mGraphDeltasModel_operation) 11 = some (.if_icmp .ge 7, 14, 18, 0, 0, .null, []) := rfl
theorem iGraphDeltasModel_operation_14 : ai_find (ai_tab mGraphDeltasModel_operation) 14 = some (.iload_n 2, 15, 2, 0, 0, .null, []) := rfl
theorem iGraphDeltasModel_operation_15 : ai_find (ai_tab mGraphDeltasModel_operation) 15 = some (.ifCond .ge 7, 18, 22, 0, 0, .null, []) := rfl
theorem iGraphDeltasModel_operation_18 : ai_find (ai_tab mGraphDeltasModel_operation) 18 = some (.ldc2_w 86, 21, 0, 0, 0, .long 1099511627776, []) := rfl
theorem iGraphDeltasModel_operation_21 : ai_find (ai_tab mGraphDeltasModel_operation) 21 = some (.lreturn, 22, 0, 0, 0, .null, []) := rfl
theorem iGraphDeltasModel_operation_22 : ai_find (ai_tab mGraphDeltasModel_operation) 22 = some (.iload_n 2, 23, 2, 0, 0, .null, []) := rfl
theorem iGraphDeltasModel_operation_23 : ai_find (ai_tab mGraphDeltasModel_operation) 23 = some (.iconst 3, 24, 0, 0, 0, .int (nI 3), []) := rfl
theorem iGraphDeltasModel_operation_24 : ai_find (ai_tab mGraphDeltasModel_operation) 24 = some (.if_icmp .ge 40, 27, 64, 0, 0, .null, []) := rfl
theorem iGraphDeltasModel_operation_27 : ai_find (ai_tab mGraphDeltasModel_operation) 27 = some (.iload_n 2, 28, 2, 0, 0, .null, []) := rfl
theorem iGraphDeltasModel_operation_28 : ai_find (ai_tab mGraphDeltasModel_operation) 28 = some (.ifCond .ne 13, 31, 41, 0, 0, .null, []) := rfl
theorem iGraphDeltasModel_operation_31 : ai_find (ai_tab mGraphDeltasModel_operation) 31 = some (.aload_n 0, 32, 0, 0, 0, .null, []) := rfl
theorem iGraphDeltasModel_operation_32 : ai_find (ai_tab mGraphDeltasModel_operation) 32 = some (.getfield 34, 35, 7, 8, 0, .null, []) := rfl
theorem iGraphDeltasModel_operation_35 : ai_find (ai_tab mGraphDeltasModel_operation) 35 = some (.iload_n 1, 36, 1, 0, 0, .null, []) := rfl
theorem iGraphDeltasModel_operation_36 : ai_find (ai_tab mGraphDeltasModel_operation) 36 = some (.iaload, 37, 0, 0, 0, .null, []) := rfl
theorem iGraphDeltasModel_operation_37 : ai_find (ai_tab mGraphDeltasModel_operation) 37 = some (.i2l, 38, 0, 0, 0, .null, []) := rfl
theorem iGraphDeltasModel_operation_38 : ai_find (ai_tab mGraphDeltasModel_operation) 38 = some (.goto 25, 41, 63, 0, 0, .null, []) := rfl
theorem iGraphDeltasModel_operation_41 : ai_find (ai_tab mGraphDeltasModel_operation) 41 = some (.iload_n 2, 42, 2, 0, 0, .null, []) := rfl
theorem iGraphDeltasModel_operation_42 : ai_find (ai_tab mGraphDeltasModel_operation) 42 = some (.iconst 1, 43, 0, 0, 0, .int (nI 1), []) := rfl
theorem iGraphDeltasModel_operation_43 : ai_find (ai_tab mGraphDeltasModel_operation) 43 = some (.if_icmp .ne 13, 46, 56, 0, 0, .null, []) := rfl
theorem iGraphDeltasModel_operation_46 : ai_find (ai_tab mGraphDeltasModel_operation) 46 = some (.aload_n 0, 47, 0, 0, 0, .null, []) := rfl
theorem iGraphDeltasModel_operation_47 : ai_find (ai_tab mGraphDeltasModel_operation) 47 = some (.getfield 37, 50, 7, 9, 0, .null, []) := rfl
theorem iGraphDeltasModel_operation_50 : ai_find (ai_tab mGraphDeltasModel_operation) 50 = some (.iload_n 1, 51, 1, 0, 0, .null, []) := rfl
theorem iGraphDeltasModel_operation_51 : ai_find (ai_tab mGraphDeltasModel_operation) 51 = some (.iaload, 52, 0, 0, 0, .null, []) := rfl
theorem iGraphDeltasModel_operation_52 : ai_find (ai_tab mGraphDeltasModel_operation) 52 = some (.i2l, 53, 0, 0, 0, .null, []) := rfl
theorem iGraphDeltasModel_operation_53 : ai_find (ai_tab mGraphDeltasModel_operation) 53 = some (.goto 10, 56, 63, 0, 0, .null, []) := rfl
theorem iGraphDeltasModel_operation_56 : ai_find (ai_tab mGraphDeltasModel_operation) 56 = some (.aload_n 0, 57, 0, 0, 0, .null, []) := rfl
theorem iGraphDeltasModel_operation_57 : ai_find (ai_tab mGraphDeltasModel_operation) 57 = some (.getfield 40, 60, 7, 10, 0, .null, []) := rfl
theorem iGraphDeltasModel_operation_60 : ai_find (ai_tab mGraphDeltasModel_operation) 60 = some (.iload_n 1, 61, 1, 0, 0, .null, []) := rfl
theorem iGraphDeltasModel_operation_61 : ai_find (ai_tab mGraphDeltasModel_operation) 61 = some (.iaload, 62, 0, 0, 0, .null, []) := rfl
theorem iGraphDeltasModel_operation_62 : ai_find (ai_tab mGraphDeltasModel_operation) 62 = some (.i2l, 63, 0, 0, 0, .null, []) := rfl
theorem iGraphDeltasModel_operation_63 : ai_find (ai_tab mGraphDeltasModel_operation) 63 = some (.lreturn, 64, 0, 0, 0, .null, []) := rfl
theorem iGraphDeltasModel_operation_64 : ai_find (ai_tab mGraphDeltasModel_operation) 64 = some (.aload_n 0, 65, 0, 0, 0, .null, []) := rfl
theorem iGraphDeltasModel_operation_65 : ai_find (ai_tab mGraphDeltasModel_operation) 65 = some (.getfield 34, 68, 7, 8, 0, .null, []) := rfl
theorem iGraphDeltasModel_operation_68 : ai_find (ai_tab mGraphDeltasModel_operation) 68 = some (.iload_n 1, 69, 1, 0, 0, .null, []) := rfl
theorem iGraphDeltasModel_operation_69 : ai_find (ai_tab mGraphDeltasModel_operation) 69 = some (.iaload, 70, 0, 0, 0, .null, []) := rfl
theorem iGraphDeltasModel_operation_70 : ai_find (ai_tab mGraphDeltasModel_operation) 70 = some (.iconst 1, 71, 0, 0, 0, .int (nI 1), []) := rfl
theorem iGraphDeltasModel_operation_71 : ai_find (ai_tab mGraphDeltasModel_operation) 71 = some (.if_icmp .ne 7, 74, 78, 0, 0, .null, []) := rfl
theorem iGraphDeltasModel_operation_74 : ai_find (ai_tab mGraphDeltasModel_operation) 74 = some (.ldc2_w 86, 77, 0, 0, 0, .long 1099511627776, []) := rfl
theorem iGraphDeltasModel_operation_77 : ai_find (ai_tab mGraphDeltasModel_operation) 77 = some (.lreturn, 78, 0, 0, 0, .null, []) := rfl
theorem iGraphDeltasModel_operation_78 : ai_find (ai_tab mGraphDeltasModel_operation) 78 = some (.iload_n 2, 79, 2, 0, 0, .null, []) := rfl
theorem iGraphDeltasModel_operation_79 : ai_find (ai_tab mGraphDeltasModel_operation) 79 = some (.iconst 5, 80, 0, 0, 0, .int (nI 5), []) := rfl
theorem iGraphDeltasModel_operation_80 : ai_find (ai_tab mGraphDeltasModel_operation) 80 = some (.if_icmp .ge 25, 83, 105, 0, 0, .null, []) := rfl
theorem iGraphDeltasModel_operation_83 : ai_find (ai_tab mGraphDeltasModel_operation) 83 = some (.iload_n 2, 84, 2, 0, 0, .null, []) := rfl
theorem iGraphDeltasModel_operation_84 : ai_find (ai_tab mGraphDeltasModel_operation) 84 = some (.iconst 3, 85, 0, 0, 0, .int (nI 3), []) := rfl
theorem iGraphDeltasModel_operation_85 : ai_find (ai_tab mGraphDeltasModel_operation) 85 = some (.if_icmp .ne 13, 88, 98, 0, 0, .null, []) := rfl
theorem iGraphDeltasModel_operation_88 : ai_find (ai_tab mGraphDeltasModel_operation) 88 = some (.aload_n 0, 89, 0, 0, 0, .null, []) := rfl
theorem iGraphDeltasModel_operation_89 : ai_find (ai_tab mGraphDeltasModel_operation) 89 = some (.getfield 43, 92, 7, 11, 0, .null, []) := rfl
theorem iGraphDeltasModel_operation_92 : ai_find (ai_tab mGraphDeltasModel_operation) 92 = some (.iload_n 1, 93, 1, 0, 0, .null, []) := rfl
theorem iGraphDeltasModel_operation_93 : ai_find (ai_tab mGraphDeltasModel_operation) 93 = some (.iaload, 94, 0, 0, 0, .null, []) := rfl
theorem iGraphDeltasModel_operation_94 : ai_find (ai_tab mGraphDeltasModel_operation) 94 = some (.i2l, 95, 0, 0, 0, .null, []) := rfl
theorem iGraphDeltasModel_operation_95 : ai_find (ai_tab mGraphDeltasModel_operation) 95 = some (.goto 9, 98, 104, 0, 0, .null, []) := rfl
theorem iGraphDeltasModel_operation_98 : ai_find (ai_tab mGraphDeltasModel_operation) 98 = some (.aload_n 0, 99, 0, 0, 0, .null, []) := rfl
theorem iGraphDeltasModel_operation_99 : ai_find (ai_tab mGraphDeltasModel_operation) 99 = some (.getfield 46, 102, 7, 12, 0, .null, []) := rfl
theorem iGraphDeltasModel_operation_102 : ai_find (ai_tab mGraphDeltasModel_operation) 102 = some (.iload_n 1, 103, 1, 0, 0, .null, []) := rfl
set_option maxRecDepth 20000 in theorem iGraphDeltasModel_operation_103 : ai_find (ai_tab mGraphDeltasModel_operation) 103 = some (.laload, 104, 0, 0, 0, .null, []) := rfl
set_option maxRecDepth 20000 in theorem iGraphDeltasModel_operation_104 : ai_find (ai_tab mGraphDeltasModel_operation) 104 = some (.lreturn, 105, 0, 0, 0, .null, []) := rfl
set_option maxRecDepth 20000 in theorem iGraphDeltasModel_operation_105 : ai_find (ai_tab mGraphDeltasModel_operation) 105 = some (.aload_n 0, 106, 0, 0, 0, .null, []) := rfl
set_option maxRecDepth 20000 in theorem iGraphDeltasModel_operation_106 : ai_find (ai_tab mGraphDeltasModel_operation) 106 = some (.getfield 34, 109, 7, 8, 0, .null, []) := rfl
set_option maxRecDepth 20000 in theorem iGraphDeltasModel_operation_109 : ai_find (ai_tab mGraphDeltasModel_operation) 109 = some (.iload_n 1, 110, 1, 0, 0, .null, []) := rfl
set_option maxRecDepth 20000 in theorem iGraphDeltasModel_operation_110 : ai_find (ai_tab mGraphDeltasModel_operation) 110 = some (.iaload, 111, 0, 0, 0, .null, []) := rfl
set_option maxRecDepth 20000 in theorem iGraphDeltasModel_operation_111 : ai_find (ai_tab mGraphDeltasModel_operation) 111 = some (.iconst 3, 112, 0, 0, 0, .int (nI 3), []) := rfl
set_option maxRecDepth 20000 in theorem iGraphDeltasModel_operation_112 : ai_find (ai_tab mGraphDeltasModel_operation) 112 = some (.if_icmp .ne 36, 115, 148, 0, 0, .null, []) := rfl
set_option maxRecDepth 20000 in theorem iGraphDeltasModel_operation_115 : ai_find (ai_tab mGraphDeltasModel_operation) 115 = some (.iload_n 2, 116, 2, 0, 0, .null, []) := rfl
set_option maxRecDepth 20000 in theorem iGraphDeltasModel_operation_116 : ai_find (ai_tab mGraphDeltasModel_operation) 116 = some (.iconst 5, 117, 0, 0, 0, .int (nI 5), []) := rfl
set_option maxRecDepth 20000 in theorem iGraphDeltasModel_operation_117 : ai_find (ai_tab mGraphDeltasModel_operation) 117 = some (.isub, 118, 0, 0, 0, .null, []) := rfl
set_option maxRecDepth 20000 in theorem iGraphDeltasModel_operation_118 : ai_find (ai_tab mGraphDeltasModel_operation) 118 = some (.i2l, 119, 0, 0, 0, .null, []) := rfl
set_option maxRecDepth 20000 in theorem iGraphDeltasModel_operation_119 : ai_find (ai_tab mGraphDeltasModel_operation) 119 = some (.aload_n 0, 120, 0, 0, 0, .null, []) := rfl
set_option maxRecDepth 20000 in theorem iGraphDeltasModel_operation_120 : ai_find (ai_tab mGraphDeltasModel_operation) 120 = some (.getfield 46, 123, 7, 12, 0, .null, []) := rfl
set_option maxRecDepth 20000 in theorem iGraphDeltasModel_operation_123 : ai_find (ai_tab mGraphDeltasModel_operation) 123 = some (.iload_n 1, 124, 1, 0, 0, .null, []) := rfl
set_option maxRecDepth 20000 in theorem iGraphDeltasModel_operation_124 : ai_find (ai_tab mGraphDeltasModel_operation) 124 = some (.laload, 125, 0, 0, 0, .null, []) := rfl
set_option maxRecDepth 20000 in theorem iGraphDeltasModel_operation_125 : ai_find (ai_tab mGraphDeltasModel_operation) 125 = some (.lcmp, 126, 0, 0, 0, .null, []) := rfl
set_option maxRecDepth 20000 in theorem iGraphDeltasModel_operation_126 : ai_find (ai_tab mGraphDeltasModel_operation) 126 = some (.ifCond .ge 22, 129, 148, 0, 0, .null, []) := rfl
set_option maxRecDepth 20000 in theorem iGraphDeltasModel_operation_129 : ai_find (ai_tab mGraphDeltasModel_operation) 129 = some (.aload_n 0, 130, 0, 0, 0, .null, []) := rfl
set_option maxRecDepth 20000 in theorem iGraphDeltasModel_operation_130 : ai_find (ai_tab mGraphDeltasModel_operation) 130 = some (.getfield 55, 133, 7, 15, 0, .null, []) := rfl
set_option maxRecDepth 20000 in theorem iGraphDeltasModel_operation_133 : ai_find (ai_tab mGraphDeltasModel_operation) 133 = some (.aload_n 0, 134, 0, 0, 0, .null, []) := rfl
set_option maxRecDepth 20000 in theorem iGraphDeltasModel_operation_134 : ai_find (ai_tab mGraphDeltasModel_operation) 134 = some (.getfield 49, 137, 7, 13, 0, .null, []) := rfl
set_option maxRecDepth 20000 in theorem iGraphDeltasModel_operation_137 : ai_find (ai_tab mGraphDeltasModel_operation) 137 = some (.iload_n 1, 138, 1, 0, 0, .null, []) := rfl
set_option maxRecDepth 20000 in theorem iGraphDeltasModel_operation_138 : ai_find (ai_tab mGraphDeltasModel_operation) 138 = some (.iaload, 139, 0, 0, 0, .null, []) := rfl
set_option maxRecDepth 20000 in theorem iGraphDeltasModel_operation_139 : ai_find (ai_tab mGraphDeltasModel_operation) 139 = some (.iload_n 2, 140, 2, 0, 0, .null, []) := rfl
set_option maxRecDepth 20000 in theorem iGraphDeltasModel_operation_140 : ai_find (ai_tab mGraphDeltasModel_operation) 140 = some (.iadd, 141, 0, 0, 0, .null, []) := rfl
set_option maxRecDepth 20000 in theorem iGraphDeltasModel_operation_141 : ai_find (ai_tab mGraphDeltasModel_operation) 141 = some (.iconst 5, 142, 0, 0, 0, .int (nI 5), []) := rfl
set_option maxRecDepth 20000 in theorem iGraphDeltasModel_operation_142 : ai_find (ai_tab mGraphDeltasModel_operation) 142 = some (.isub, 143, 0, 0, 0, .null, []) := rfl
set_option maxRecDepth 20000 in theorem iGraphDeltasModel_operation_143 : ai_find (ai_tab mGraphDeltasModel_operation) 143 = some (.iaload, 144, 0, 0, 0, .null, []) := rfl
set_option maxRecDepth 20000 in theorem iGraphDeltasModel_operation_144 : ai_find (ai_tab mGraphDeltasModel_operation) 144 = some (.i2l, 145, 0, 0, 0, .null, []) := rfl
set_option maxRecDepth 20000 in theorem iGraphDeltasModel_operation_145 : ai_find (ai_tab mGraphDeltasModel_operation) 145 = some (.goto 6, 148, 151, 0, 0, .null, []) := rfl
set_option maxRecDepth 20000 in theorem iGraphDeltasModel_operation_148 : ai_find (ai_tab mGraphDeltasModel_operation) 148 = some (.ldc2_w 86, 151, 0, 0, 0, .long 1099511627776, []) := rfl
set_option maxRecDepth 20000 in theorem iGraphDeltasModel_operation_151 : ai_find (ai_tab mGraphDeltasModel_operation) 151 = some (.lreturn, 152, 0, 0, 0, .null, []) := rfl
theorem iGraphDeltasModel_operationFits_0 : ai_find (ai_tab mGraphDeltasModel_operationFits) 0 = some (.aload_n 0, 1, 0, 0, 0, .null, []) := rfl
theorem iGraphDeltasModel_operationFits_1 : ai_find (ai_tab mGraphDeltasModel_operationFits) 1 = some (.getfield 37, 4, 7, 9, 0, .null, []) := rfl
theorem iGraphDeltasModel_operationFits_4 : ai_find (ai_tab mGraphDeltasModel_operationFits) 4 = some (.iload_n 2, 5, 2, 0, 0, .null, []) := rfl
theorem iGraphDeltasModel_operationFits_5 : ai_find (ai_tab mGraphDeltasModel_operationFits) 5 = some (.iaload, 6, 0, 0, 0, .null, []) := rfl
theorem iGraphDeltasModel_operationFits_6 : ai_find (ai_tab mGraphDeltasModel_operationFits) 6 = some (.istore_n 3, 7, 3, 0, 0, .null, []) := rfl
theorem iGraphDeltasModel_operationFits_7 : ai_find (ai_tab mGraphDeltasModel_operationFits) 7 = some (.aload_n 0, 8, 0, 0, 0, .null, []) := rfl
theorem iGraphDeltasModel_operationFits_8 : ai_find (ai_tab mGraphDeltasModel_operationFits) 8 = some (.getfield 34, 11, 7, 8, 0, .null, []) := rfl
theorem iGraphDeltasModel_operationFits_11 : ai_find (ai_tab mGraphDeltasModel_operationFits) 11 = some (.iload_n 2, 12, 2, 0, 0, .null, []) := rfl
theorem iGraphDeltasModel_operationFits_12 : ai_find (ai_tab mGraphDeltasModel_operationFits) 12 = some (.iaload, 13, 0, 0, 0, .null, []) := rfl
theorem iGraphDeltasModel_operationFits_13 : ai_find (ai_tab mGraphDeltasModel_operationFits) 13 = some (.iconst 1, 14, 0, 0, 0, .int (nI 1), []) := rfl
theorem iGraphDeltasModel_operationFits_14 : ai_find (ai_tab mGraphDeltasModel_operationFits) 14 = some (.if_icmp .ne 55, 17, 69, 0, 0, .null, []) := rfl
theorem iGraphDeltasModel_operationFits_17 : ai_find (ai_tab mGraphDeltasModel_operationFits) 17 = some (.aload_n 0, 18, 0, 0, 0, .null, []) := rfl
theorem iGraphDeltasModel_operationFits_18 : ai_find (ai_tab mGraphDeltasModel_operationFits) 18 = some (.getfield 17, 21, 7, 3, 0, .null, []) := rfl
theorem iGraphDeltasModel_operationFits_21 : ai_find (ai_tab mGraphDeltasModel_operationFits) 21 = some (.bipush 16, 23, 0, 0, 0, .int (nI 16), []) := rfl
theorem iGraphDeltasModel_operationFits_23 : ai_find (ai_tab mGraphDeltasModel_operationFits) 23 = some (.iload_n 1, 24, 1, 0, 0, .null, []) := rfl
theorem iGraphDeltasModel_operationFits_24 : ai_find (ai_tab mGraphDeltasModel_operationFits) 24 = some (.imul, 25, 0, 0, 0, .null, []) := rfl
theorem iGraphDeltasModel_operationFits_25 : ai_find (ai_tab mGraphDeltasModel_operationFits) 25 = some (.iload_n 3, 26, 3, 0, 0, .null, []) := rfl
theorem iGraphDeltasModel_operationFits_26 : ai_find (ai_tab mGraphDeltasModel_operationFits) 26 = some (.iadd, 27, 0, 0, 0, .null, []) := rfl
theorem iGraphDeltasModel_operationFits_27 : ai_find (ai_tab mGraphDeltasModel_operationFits) 27 = some (.baload, 28, 0, 0, 0, .null, []) := rfl
theorem iGraphDeltasModel_operationFits_28 : ai_find (ai_tab mGraphDeltasModel_operationFits) 28 = some (.ifCond .ne 39, 31, 67, 0, 0, .null, []) := rfl
theorem iGraphDeltasModel_operationFits_31 : ai_find (ai_tab mGraphDeltasModel_operationFits) 31 = some (.iload_n 3, 32, 3, 0, 0, .null, []) := rfl
theorem iGraphDeltasModel_operationFits_32 : ai_find (ai_tab mGraphDeltasModel_operationFits) 32 = some (.aload_n 0, 33, 0, 0, 0, .null, []) := rfl
theorem iGraphDeltasModel_operationFits_33 : ai_find (ai_tab mGraphDeltasModel_operationFits) 33 = some (.getfield 7, 36, 7, 0, 0, .null, []) := rfl
theorem iGraphDeltasModel_operationFits_36 : ai_find (ai_tab mGraphDeltasModel_operationFits) 36 = some (.if_icmp .ge 31, 39, 67, 0, 0, .null, []) := rfl
theorem iGraphDeltasModel_operationFits_39 : ai_find (ai_tab mGraphDeltasModel_operationFits) 39 = some (.aload_n 0, 40, 0, 0, 0, .null, []) := rfl
theorem iGraphDeltasModel_operationFits_40 : ai_find (ai_tab mGraphDeltasModel_operationFits) 40 = some (.getfield 13, 43, 7, 1, 0, .null, []) := rfl
theorem iGraphDeltasModel_operationFits_43 : ai_find (ai_tab mGraphDeltasModel_operationFits) 43 = some (.iload_n 3, 44, 3, 0, 0, .null, []) := rfl
theorem iGraphDeltasModel_operationFits_44 : ai_find (ai_tab mGraphDeltasModel_operationFits) 44 = some (.baload, 45, 0, 0, 0, .null, []) := rfl
theorem iGraphDeltasModel_operationFits_45 : ai_find (ai_tab mGraphDeltasModel_operationFits) 45 = some (.aload_n 0, 46, 0, 0, 0, .null, []) := rfl
theorem iGraphDeltasModel_operationFits_46 : ai_find (ai_tab mGraphDeltasModel_operationFits) 46 = some (.getfield 40, 49, 7, 10, 0, .null, []) := rfl
theorem iGraphDeltasModel_operationFits_49 : ai_find (ai_tab mGraphDeltasModel_operationFits) 49 = some (.iload_n 2, 50, 2, 0, 0, .null, []) := rfl
theorem iGraphDeltasModel_operationFits_50 : ai_find (ai_tab mGraphDeltasModel_operationFits) 50 = some (.iaload, 51, 0, 0, 0, .null, []) := rfl
theorem iGraphDeltasModel_operationFits_51 : ai_find (ai_tab mGraphDeltasModel_operationFits) 51 = some (.iconst 1, 52, 0, 0, 0, .int (nI 1), []) := rfl
theorem iGraphDeltasModel_operationFits_52 : ai_find (ai_tab mGraphDeltasModel_operationFits) 52 = some (.if_icmp .ne 7, 55, 59, 0, 0, .null, []) := rfl
theorem iGraphDeltasModel_operationFits_55 : ai_find (ai_tab mGraphDeltasModel_operationFits) 55 = some (.iconst 1, 56, 0, 0, 0, .int (nI 1), []) := rfl
theorem iGraphDeltasModel_operationFits_56 : ai_find (ai_tab mGraphDeltasModel_operationFits) 56 = some (.goto 4, 59, 60, 0, 0, .null, []) := rfl
theorem iGraphDeltasModel_operationFits_59 : ai_find (ai_tab mGraphDeltasModel_operationFits) 59 = some (.iconst 0, 60, 0, 0, 0, .int (nI 0), []) := rfl
theorem iGraphDeltasModel_operationFits_60 : ai_find (ai_tab mGraphDeltasModel_operationFits) 60 = some (.if_icmp .ne 7, 63, 67, 0, 0, .null, []) := rfl
theorem iGraphDeltasModel_operationFits_63 : ai_find (ai_tab mGraphDeltasModel_operationFits) 63 = some (.iconst 1, 64, 0, 0, 0, .int (nI 1), []) := rfl
theorem iGraphDeltasModel_operationFits_64 : ai_find (ai_tab mGraphDeltasModel_operationFits) 64 = some (.goto 4, 67, 68, 0, 0, .null, []) := rfl
theorem iGraphDeltasModel_operationFits_67 : ai_find (ai_tab mGraphDeltasModel_operationFits) 67 = some (.iconst 0, 68, 0, 0, 0, .int (nI 0), []) := rfl
theorem iGraphDeltasModel_operationFits_68 : ai_find (ai_tab mGraphDeltasModel_operationFits) 68 = some (.ireturn, 69, 1, 0, 0, .null, []) := rfl
theorem iGraphDeltasModel_operationFits_69 : ai_find (ai_tab mGraphDeltasModel_operationFits) 69 = some (.aload_n 0, 70, 0, 0, 0, .null, []) := rfl
theorem iGraphDeltasModel_operationFits_70 : ai_find (ai_tab mGraphDeltasModel_operationFits) 70 = some (.iload_n 1, 71, 1, 0, 0, .null, []) := rfl
theorem iGraphDeltasModel_operationFits_71 : ai_find (ai_tab mGraphDeltasModel_operationFits) 71 = some (.iload_n 3, 72, 3, 0, 0, .null, []) := rfl
theorem iGraphDeltasModel_operationFits_72 : ai_find (ai_tab mGraphDeltasModel_operationFits) 72 = some (.invokevirtual 170, 75, 123, 3, 1, .ref 7, []) := rfl
theorem iGraphDeltasModel_operationFits_75 : ai_find (ai_tab mGraphDeltasModel_operationFits) 75 = some (.ifCond .eq 27, 78, 102, 0, 0, .null, []) := rfl
theorem iGraphDeltasModel_operationFits_78 : ai_find (ai_tab mGraphDeltasModel_operationFits) 78 = some (.aload_n 0, 79, 0, 0, 0, .null, []) := rfl
theorem iGraphDeltasModel_operationFits_79 : ai_find (ai_tab mGraphDeltasModel_operationFits) 79 = some (.getfield 13, 82, 7, 1, 0, .null, []) := rfl
theorem iGraphDeltasModel_operationFits_82 : ai_find (ai_tab mGraphDeltasModel_operationFits) 82 = some (.iload_n 3, 83, 3, 0, 0, .null, []) := rfl
theorem iGraphDeltasModel_operationFits_83 : ai_find (ai_tab mGraphDeltasModel_operationFits) 83 = some (.baload, 84, 0, 0, 0, .null, []) := rfl
theorem iGraphDeltasModel_operationFits_84 : ai_find (ai_tab mGraphDeltasModel_operationFits) 84 = some (.aload_n 0, 85, 0, 0, 0, .null, []) := rfl
theorem iGraphDeltasModel_operationFits_85 : ai_find (ai_tab mGraphDeltasModel_operationFits) 85 = some (.getfield 34, 88, 7, 8, 0, .null, []) := rfl
theorem iGraphDeltasModel_operationFits_88 : ai_find (ai_tab mGraphDeltasModel_operationFits) 88 = some (.iload_n 2, 89, 2, 0, 0, .null, []) := rfl
theorem iGraphDeltasModel_operationFits_89 : ai_find (ai_tab mGraphDeltasModel_operationFits) 89 = some (.iaload, 90, 0, 0, 0, .null, []) := rfl
theorem iGraphDeltasModel_operationFits_90 : ai_find (ai_tab mGraphDeltasModel_operationFits) 90 = some (.iconst 3, 91, 0, 0, 0, .int (nI 3), []) := rfl
theorem iGraphDeltasModel_operationFits_91 : ai_find (ai_tab mGraphDeltasModel_operationFits) 91 = some (.if_icmp .ne 7, 94, 98, 0, 0, .null, []) := rfl
theorem iGraphDeltasModel_operationFits_94 : ai_find (ai_tab mGraphDeltasModel_operationFits) 94 = some (.iconst 1, 95, 0, 0, 0, .int (nI 1), []) := rfl
theorem iGraphDeltasModel_operationFits_95 : ai_find (ai_tab mGraphDeltasModel_operationFits) 95 = some (.goto 4, 98, 99, 0, 0, .null, []) := rfl
theorem iGraphDeltasModel_operationFits_98 : ai_find (ai_tab mGraphDeltasModel_operationFits) 98 = some (.iconst 0, 99, 0, 0, 0, .int (nI 0), []) := rfl
theorem iGraphDeltasModel_operationFits_99 : ai_find (ai_tab mGraphDeltasModel_operationFits) 99 = some (.if_icmp .eq 5, 102, 104, 0, 0, .null, []) := rfl
set_option maxRecDepth 20000 in theorem iGraphDeltasModel_operationFits_102 : ai_find (ai_tab mGraphDeltasModel_operationFits) 102 = some (.iconst 0, 103, 0, 0, 0, .int (nI 0), []) := rfl
set_option maxRecDepth 20000 in theorem iGraphDeltasModel_operationFits_103 : ai_find (ai_tab mGraphDeltasModel_operationFits) 103 = some (.ireturn, 104, 1, 0, 0, .null, []) := rfl
set_option maxRecDepth 20000 in theorem iGraphDeltasModel_operationFits_104 : ai_find (ai_tab mGraphDeltasModel_operationFits) 104 = some (.aload_n 0, 105, 0, 0, 0, .null, []) := rfl
set_option maxRecDepth 20000 in theorem iGraphDeltasModel_operationFits_105 : ai_find (ai_tab mGraphDeltasModel_operationFits) 105 = some (.getfield 34, 108, 7, 8, 0, .null, []) := rfl
set_option maxRecDepth 20000 in theorem iGraphDeltasModel_operationFits_108 : ai_find (ai_tab mGraphDeltasModel_operationFits) 108 = some (.iload_n 2, 109, 2, 0, 0, .null, []) := rfl
set_option maxRecDepth 20000 in theorem iGraphDeltasModel_operationFits_109 : ai_find (ai_tab mGraphDeltasModel_operationFits) 109 = some (.iaload, 110, 0, 0, 0, .null, []) := rfl
set_option maxRecDepth 20000 in theorem iGraphDeltasModel_operationFits_110 : ai_find (ai_tab mGraphDeltasModel_operationFits) 110 = some (.iconst 2, 111, 0, 0, 0, .int (nI 2), []) := rfl
set_option maxRecDepth 20000 in theorem iGraphDeltasModel_operationFits_111 : ai_find (ai_tab mGraphDeltasModel_operationFits) 111 = some (.if_icmp .ne 34, 114, 145, 0, 0, .null, []) := rfl
set_option maxRecDepth 20000 in theorem iGraphDeltasModel_operationFits_114 : ai_find (ai_tab mGraphDeltasModel_operationFits) 114 = some (.aload_n 0, 115, 0, 0, 0, .null, []) := rfl
set_option maxRecDepth 20000 in theorem iGraphDeltasModel_operationFits_115 : ai_find (ai_tab mGraphDeltasModel_operationFits) 115 = some (.getfield 43, 118, 7, 11, 0, .null, []) := rfl
set_option maxRecDepth 20000 in theorem iGraphDeltasModel_operationFits_118 : ai_find (ai_tab mGraphDeltasModel_operationFits) 118 = some (.iload_n 2, 119, 2, 0, 0, .null, []) := rfl
set_option maxRecDepth 20000 in theorem iGraphDeltasModel_operationFits_119 : ai_find (ai_tab mGraphDeltasModel_operationFits) 119 = some (.iaload, 120, 0, 0, 0, .null, []) := rfl
set_option maxRecDepth 20000 in theorem iGraphDeltasModel_operationFits_120 : ai_find (ai_tab mGraphDeltasModel_operationFits) 120 = some (.iconst 2, 121, 0, 0, 0, .int (nI 2), []) := rfl
set_option maxRecDepth 20000 in theorem iGraphDeltasModel_operationFits_121 : ai_find (ai_tab mGraphDeltasModel_operationFits) 121 = some (.if_icmp .ne 18, 124, 139, 0, 0, .null, []) := rfl
set_option maxRecDepth 20000 in theorem iGraphDeltasModel_operationFits_124 : ai_find (ai_tab mGraphDeltasModel_operationFits) 124 = some (.aload_n 0, 125, 0, 0, 0, .null, []) := rfl
set_option maxRecDepth 20000 in theorem iGraphDeltasModel_operationFits_125 : ai_find (ai_tab mGraphDeltasModel_operationFits) 125 = some (.iload_n 1, 126, 1, 0, 0, .null, []) := rfl
set_option maxRecDepth 20000 in theorem iGraphDeltasModel_operationFits_126 : ai_find (ai_tab mGraphDeltasModel_operationFits) 126 = some (.aload_n 0, 127, 0, 0, 0, .null, []) := rfl
set_option maxRecDepth 20000 in theorem iGraphDeltasModel_operationFits_127 : ai_find (ai_tab mGraphDeltasModel_operationFits) 127 = some (.getfield 46, 130, 7, 12, 0, .null, []) := rfl
set_option maxRecDepth 20000 in theorem iGraphDeltasModel_operationFits_130 : ai_find (ai_tab mGraphDeltasModel_operationFits) 130 = some (.iload_n 2, 131, 2, 0, 0, .null, []) := rfl
set_option maxRecDepth 20000 in theorem iGraphDeltasModel_operationFits_131 : ai_find (ai_tab mGraphDeltasModel_operationFits) 131 = some (.laload, 132, 0, 0, 0, .null, []) := rfl
set_option maxRecDepth 20000 in theorem iGraphDeltasModel_operationFits_132 : ai_find (ai_tab mGraphDeltasModel_operationFits) 132 = some (.l2i, 133, 0, 0, 0, .null, []) := rfl
set_option maxRecDepth 20000 in theorem iGraphDeltasModel_operationFits_133 : ai_find (ai_tab mGraphDeltasModel_operationFits) 133 = some (.invokevirtual 170, 136, 123, 3, 1, .ref 7, []) := rfl
set_option maxRecDepth 20000 in theorem iGraphDeltasModel_operationFits_136 : ai_find (ai_tab mGraphDeltasModel_operationFits) 136 = some (.ifCond .eq 7, 139, 143, 0, 0, .null, []) := rfl
set_option maxRecDepth 20000 in theorem iGraphDeltasModel_operationFits_139 : ai_find (ai_tab mGraphDeltasModel_operationFits) 139 = some (.iconst 1, 140, 0, 0, 0, .int (nI 1), []) := rfl
set_option maxRecDepth 20000 in theorem iGraphDeltasModel_operationFits_140 : ai_find (ai_tab mGraphDeltasModel_operationFits) 140 = some (.goto 4, 143, 144, 0, 0, .null, []) := rfl
set_option maxRecDepth 20000 in theorem iGraphDeltasModel_operationFits_143 : ai_find (ai_tab mGraphDeltasModel_operationFits) 143 = some (.iconst 0, 144, 0, 0, 0, .int (nI 0), []) := rfl
set_option maxRecDepth 20000 in theorem iGraphDeltasModel_operationFits_144 : ai_find (ai_tab mGraphDeltasModel_operationFits) 144 = some (.ireturn, 145, 1, 0, 0, .null, []) := rfl
set_option maxRecDepth 20000 in theorem iGraphDeltasModel_operationFits_145 : ai_find (ai_tab mGraphDeltasModel_operationFits) 145 = some (.aload_n 0, 146, 0, 0, 0, .null, []) := rfl
set_option maxRecDepth 20000 in theorem iGraphDeltasModel_operationFits_146 : ai_find (ai_tab mGraphDeltasModel_operationFits) 146 = some (.getfield 40, 149, 7, 10, 0, .null, []) := rfl
set_option maxRecDepth 20000 in theorem iGraphDeltasModel_operationFits_149 : ai_find (ai_tab mGraphDeltasModel_operationFits) 149 = some (.iload_n 2, 150, 2, 0, 0, .null, []) := rfl
set_option maxRecDepth 20000 in theorem iGraphDeltasModel_operationFits_150 : ai_find (ai_tab mGraphDeltasModel_operationFits) 150 = some (.iaload, 151, 0, 0, 0, .null, []) := rfl
set_option maxRecDepth 20000 in theorem iGraphDeltasModel_operationFits_151 : ai_find (ai_tab mGraphDeltasModel_operationFits) 151 = some (.aload_n 0, 152, 0, 0, 0, .null, []) := rfl
set_option maxRecDepth 20000 in theorem iGraphDeltasModel_operationFits_152 : ai_find (ai_tab mGraphDeltasModel_operationFits) 152 = some (.getfield 43, 155, 7, 11, 0, .null, []) := rfl
set_option maxRecDepth 20000 in theorem iGraphDeltasModel_operationFits_155 : ai_find (ai_tab mGraphDeltasModel_operationFits) 155 = some (.iload_n 2, 156, 2, 0, 0, .null, []) := rfl
set_option maxRecDepth 20000 in theorem iGraphDeltasModel_operationFits_156 : ai_find (ai_tab mGraphDeltasModel_operationFits) 156 = some (.iaload, 157, 0, 0, 0, .null, []) := rfl
set_option maxRecDepth 20000 in theorem iGraphDeltasModel_operationFits_157 : ai_find (ai_tab mGraphDeltasModel_operationFits) 157 = some (.iadd, 158, 0, 0, 0, .null, []) := rfl
set_option maxRecDepth 20000 in theorem iGraphDeltasModel_operationFits_158 : ai_find (ai_tab mGraphDeltasModel_operationFits) 158 = some (.aload_n 0, 159, 0, 0, 0, .null, []) := rfl
set_option maxRecDepth 20000 in theorem iGraphDeltasModel_operationFits_159 : ai_find (ai_tab mGraphDeltasModel_operationFits) 159 = some (.iload_n 1, 160, 1, 0, 0, .null, []) := rfl
set_option maxRecDepth 20000 in theorem iGraphDeltasModel_operationFits_160 : ai_find (ai_tab mGraphDeltasModel_operationFits) 160 = some (.iload_n 3, 161, 3, 0, 0, .null, []) := rfl
set_option maxRecDepth 20000 in theorem iGraphDeltasModel_operationFits_161 : ai_find (ai_tab mGraphDeltasModel_operationFits) 161 = some (.invokevirtual 105, 164, 146, 3, 1, .ref 7, []) := rfl
set_option maxRecDepth 20000 in theorem iGraphDeltasModel_operationFits_164 : ai_find (ai_tab mGraphDeltasModel_operationFits) 164 = some (.if_icmp .gt 7, 167, 171, 0, 0, .null, []) := rfl
set_option maxRecDepth 20000 in theorem iGraphDeltasModel_operationFits_167 : ai_find (ai_tab mGraphDeltasModel_operationFits) 167 = some (.iconst 1, 168, 0, 0, 0, .int (nI 1), []) := rfl
set_option maxRecDepth 20000 in theorem iGraphDeltasModel_operationFits_168 : ai_find (ai_tab mGraphDeltasModel_operationFits) 168 = some (.goto 4, 171, 172, 0, 0, .null, []) := rfl
set_option maxRecDepth 20000 in theorem iGraphDeltasModel_operationFits_171 : ai_find (ai_tab mGraphDeltasModel_operationFits) 171 = some (.iconst 0, 172, 0, 0, 0, .int (nI 0), []) := rfl
set_option maxRecDepth 20000 in theorem iGraphDeltasModel_operationFits_172 : ai_find (ai_tab mGraphDeltasModel_operationFits) 172 = some (.ireturn, 173, 1, 0, 0, .null, []) := rfl
theorem iGraphDeltasModel_prune_0 : ai_find (ai_tab mGraphDeltasModel_prune) 0 = some (.iconst 0, 1, 0, 0, 0, .int (nI 0), []) := rfl
theorem iGraphDeltasModel_prune_1 : ai_find (ai_tab mGraphDeltasModel_prune) 1 = some (.istore_n 2, 2, 2, 0, 0, .null, []) := rfl
theorem iGraphDeltasModel_prune_2 : ai_find (ai_tab mGraphDeltasModel_prune) 2 = some (.iload_n 2, 3, 2, 0, 0, .null, []) := rfl
theorem iGraphDeltasModel_prune_3 : ai_find (ai_tab mGraphDeltasModel_prune) 3 = some (.bipush 16, 5, 0, 0, 0, .int (nI 16), []) := rfl
theorem iGraphDeltasModel_prune_5 : ai_find (ai_tab mGraphDeltasModel_prune) 5 = some (.if_icmp .ge 24, 8, 29, 0, 0, .null, []) := rfl
theorem iGraphDeltasModel_prune_8 : ai_find (ai_tab mGraphDeltasModel_prune) 8 = some (.aload_n 0, 9, 0, 0, 0, .null, []) := rfl
theorem iGraphDeltasModel_prune_9 : ai_find (ai_tab mGraphDeltasModel_prune) 9 = some (.getfield 28, 12, 7, 6, 0, .null, []) := rfl
theorem iGraphDeltasModel_prune_12 : ai_find (ai_tab mGraphDeltasModel_prune) 12 = some (.iload_n 2, 13, 2, 0, 0, .null, []) := rfl
theorem iGraphDeltasModel_prune_13 : ai_find (ai_tab mGraphDeltasModel_prune) 13 = some (.iload_n 2, 14, 2, 0, 0, .null, []) := rfl
theorem iGraphDeltasModel_prune_14 : ai_find (ai_tab mGraphDeltasModel_prune) 14 = some (.ifCond .ne 7, 17, 21, 0, 0, .null, []) := rfl
theorem iGraphDeltasModel_prune_17 : ai_find (ai_tab mGraphDeltasModel_prune) 17 = some (.iconst 1, 18, 0, 0, 0, .int (nI 1), []) := rfl
theorem iGraphDeltasModel_prune_18 : ai_find (ai_tab mGraphDeltasModel_prune) 18 = some (.goto 4, 21, 22, 0, 0, .null, []) := rfl
theorem iGraphDeltasModel_prune_21 : ai_find (ai_tab mGraphDeltasModel_prune) 21 = some (.iconst 0, 22, 0, 0, 0, .int (nI 0), []) := rfl
theorem iGraphDeltasModel_prune_22 : ai_find (ai_tab mGraphDeltasModel_prune) 22 = some (.bastore, 23, 0, 0, 0, .null, []) := rfl
theorem iGraphDeltasModel_prune_23 : ai_find (ai_tab mGraphDeltasModel_prune) 23 = some (.iinc 2 1, 26, 2, 0, 0, .int (nI 1), []) := rfl
theorem iGraphDeltasModel_prune_26 : ai_find (ai_tab mGraphDeltasModel_prune) 26 = some (.goto (-24), 29, 2, 0, 0, .null, []) := rfl
theorem iGraphDeltasModel_prune_29 : ai_find (ai_tab mGraphDeltasModel_prune) 29 = some (.iconst 0, 30, 0, 0, 0, .int (nI 0), []) := rfl
theorem iGraphDeltasModel_prune_30 : ai_find (ai_tab mGraphDeltasModel_prune) 30 = some (.istore_n 2, 31, 2, 0, 0, .null, []) := rfl
theorem iGraphDeltasModel_prune_31 : ai_find (ai_tab mGraphDeltasModel_prune) 31 = some (.iload_n 2, 32, 2, 0, 0, .null, []) := rfl
theorem iGraphDeltasModel_prune_32 : ai_find (ai_tab mGraphDeltasModel_prune) 32 = some (.bipush 16, 34, 0, 0, 0, .int (nI 16), []) := rfl
theorem iGraphDeltasModel_prune_34 : ai_find (ai_tab mGraphDeltasModel_prune) 34 = some (.if_icmp .ge 106, 37, 140, 0, 0, .null, []) := rfl
theorem iGraphDeltasModel_prune_37 : ai_find (ai_tab mGraphDeltasModel_prune) 37 = some (.iconst 0, 38, 0, 0, 0, .int (nI 0), []) := rfl
theorem iGraphDeltasModel_prune_38 : ai_find (ai_tab mGraphDeltasModel_prune) 38 = some (.istore_n 3, 39, 3, 0, 0, .null, []) := rfl
theorem iGraphDeltasModel_prune_39 : ai_find (ai_tab mGraphDeltasModel_prune) 39 = some (.iload_n 3, 40, 3, 0, 0, .null, []) := rfl
theorem iGraphDeltasModel_prune_40 : ai_find (ai_tab mGraphDeltasModel_prune) 40 = some (.bipush 16, 42, 0, 0, 0, .int (nI 16), []) := rfl
theorem iGraphDeltasModel_prune_42 : ai_find (ai_tab mGraphDeltasModel_prune) 42 = some (.if_icmp .ge 92, 45, 134, 0, 0, .null, []) := rfl
theorem iGraphDeltasModel_prune_45 : ai_find (ai_tab mGraphDeltasModel_prune) 45 = some (.iconst 0, 46, 0, 0, 0, .int (nI 0), []) := rfl
theorem iGraphDeltasModel_prune_46 : ai_find (ai_tab mGraphDeltasModel_prune) 46 = some (.istore 4, 48, 4, 0, 0, .null, []) := rfl
theorem iGraphDeltasModel_prune_48 : ai_find (ai_tab mGraphDeltasModel_prune) 48 = some (.iload 4, 50, 4, 0, 0, .null, []) := rfl
theorem iGraphDeltasModel_prune_50 : ai_find (ai_tab mGraphDeltasModel_prune) 50 = some (.iconst 3, 51, 0, 0, 0, .int (nI 3), []) := rfl
theorem iGraphDeltasModel_prune_51 : ai_find (ai_tab mGraphDeltasModel_prune) 51 = some (.if_icmp .ge 77, 54, 128, 0, 0, .null, []) := rfl
theorem iGraphDeltasModel_prune_54 : ai_find (ai_tab mGraphDeltasModel_prune) 54 = some (.aload_n 0, 55, 0, 0, 0, .null, []) := rfl
theorem iGraphDeltasModel_prune_55 : ai_find (ai_tab mGraphDeltasModel_prune) 55 = some (.getfield 28, 58, 7, 6, 0, .null, []) := rfl
theorem iGraphDeltasModel_prune_58 : ai_find (ai_tab mGraphDeltasModel_prune) 58 = some (.iload_n 3, 59, 3, 0, 0, .null, []) := rfl
theorem iGraphDeltasModel_prune_59 : ai_find (ai_tab mGraphDeltasModel_prune) 59 = some (.baload, 60, 0, 0, 0, .null, []) := rfl
theorem iGraphDeltasModel_prune_60 : ai_find (ai_tab mGraphDeltasModel_prune) 60 = some (.ifCond .eq 68, 63, 128, 0, 0, .null, []) := rfl
theorem iGraphDeltasModel_prune_63 : ai_find (ai_tab mGraphDeltasModel_prune) 63 = some (.aload_n 0, 64, 0, 0, 0, .null, []) := rfl
theorem iGraphDeltasModel_prune_64 : ai_find (ai_tab mGraphDeltasModel_prune) 64 = some (.getfield 13, 67, 7, 1, 0, .null, []) := rfl
theorem iGraphDeltasModel_prune_67 : ai_find (ai_tab mGraphDeltasModel_prune) 67 = some (.iload_n 3, 68, 3, 0, 0, .null, []) := rfl
theorem iGraphDeltasModel_prune_68 : ai_find (ai_tab mGraphDeltasModel_prune) 68 = some (.baload, 69, 0, 0, 0, .null, []) := rfl
theorem iGraphDeltasModel_prune_69 : ai_find (ai_tab mGraphDeltasModel_prune) 69 = some (.ifCond .ne 59, 72, 128, 0, 0, .null, []) := rfl
theorem iGraphDeltasModel_prune_72 : ai_find (ai_tab mGraphDeltasModel_prune) 72 = some (.aload_n 0, 73, 0, 0, 0, .null, []) := rfl
theorem iGraphDeltasModel_prune_73 : ai_find (ai_tab mGraphDeltasModel_prune) 73 = some (.getfield 24, 76, 7, 5, 0, .null, []) := rfl
theorem iGraphDeltasModel_prune_76 : ai_find (ai_tab mGraphDeltasModel_prune) 76 = some (.bipush 96, 78, 0, 0, 0, .int (nI 96), []) := rfl
theorem iGraphDeltasModel_prune_78 : ai_find (ai_tab mGraphDeltasModel_prune) 78 = some (.iload_n 1, 79, 1, 0, 0, .null, []) := rfl
theorem iGraphDeltasModel_prune_79 : ai_find (ai_tab mGraphDeltasModel_prune) 79 = some (.imul, 80, 0, 0, 0, .null, []) := rfl
theorem iGraphDeltasModel_prune_80 : ai_find (ai_tab mGraphDeltasModel_prune) 80 = some (.bipush 6, 82, 0, 0, 0, .int (nI 6), []) := rfl
theorem iGraphDeltasModel_prune_82 : ai_find (ai_tab mGraphDeltasModel_prune) 82 = some (.iload_n 3, 83, 3, 0, 0, .null, []) := rfl
theorem iGraphDeltasModel_prune_83 : ai_find (ai_tab mGraphDeltasModel_prune) 83 = some (.imul, 84, 0, 0, 0, .null, []) := rfl
theorem iGraphDeltasModel_prune_84 : ai_find (ai_tab mGraphDeltasModel_prune) 84 = some (.iadd, 85, 0, 0, 0, .null, []) := rfl
theorem iGraphDeltasModel_prune_85 : ai_find (ai_tab mGraphDeltasModel_prune) 85 = some (.iload 4, 87, 4, 0, 0, .null, []) := rfl
theorem iGraphDeltasModel_prune_87 : ai_find (ai_tab mGraphDeltasModel_prune) 87 = some (.iadd, 88, 0, 0, 0, .null, []) := rfl
theorem iGraphDeltasModel_prune_88 : ai_find (ai_tab mGraphDeltasModel_prune) 88 = some (.laload, 89, 0, 0, 0, .null, []) := rfl
theorem iGraphDeltasModel_prune_89 : ai_find (ai_tab mGraphDeltasModel_prune) 89 = some (.lstore 5, 91, 5, 0, 0, .null, []) := rfl
theorem iGraphDeltasModel_prune_91 : ai_find (ai_tab mGraphDeltasModel_prune) 91 = some (.lload 5, 93, 5, 0, 0, .null, []) := rfl
theorem iGraphDeltasModel_prune_93 : ai_find (ai_tab mGraphDeltasModel_prune) 93 = some (.ldc2_w 84, 96, 0, 0, 0, .long 4294967296, []) := rfl
theorem iGraphDeltasModel_prune_96 : ai_find (ai_tab mGraphDeltasModel_prune) 96 = some (.lcmp, 97, 0, 0, 0, .null, []) := rfl
theorem iGraphDeltasModel_prune_97 : ai_find (ai_tab mGraphDeltasModel_prune) 97 = some (.ifCond .lt 25, 100, 122, 0, 0, .null, []) := rfl
theorem iGraphDeltasModel_prune_100 : ai_find (ai_tab mGraphDeltasModel_prune) 100 = some (.lload 5, 102, 5, 0, 0, .null, []) := rfl
theorem iGraphDeltasModel_prune_102 : ai_find (ai_tab mGraphDeltasModel_prune) 102 = some (.ldc2_w 71, 105, 0, 0, 0, .long 8589934592, []) := rfl
theorem iGraphDeltasModel_prune_105 : ai_find (ai_tab mGraphDeltasModel_prune) 105 = some (.lcmp, 106, 0, 0, 0, .null, []) := rfl
set_option maxRecDepth 20000 in theorem iGraphDeltasModel_prune_106 : ai_find (ai_tab mGraphDeltasModel_prune) 106 = some (.ifCond .ge 16, 109, 122, 0, 0, .null, []) := rfl
set_option maxRecDepth 20000 in theorem iGraphDeltasModel_prune_109 : ai_find (ai_tab mGraphDeltasModel_prune) 109 = some (.aload_n 0, 110, 0, 0, 0, .null, []) := rfl
set_option maxRecDepth 20000 in theorem iGraphDeltasModel_prune_110 : ai_find (ai_tab mGraphDeltasModel_prune) 110 = some (.getfield 28, 113, 7, 6, 0, .null, []) := rfl
set_option maxRecDepth 20000 in theorem iGraphDeltasModel_prune_113 : ai_find (ai_tab mGraphDeltasModel_prune) 113 = some (.lload 5, 115, 5, 0, 0, .null, []) := rfl
set_option maxRecDepth 20000 in theorem iGraphDeltasModel_prune_115 : ai_find (ai_tab mGraphDeltasModel_prune) 115 = some (.ldc2_w 84, 118, 0, 0, 0, .long 4294967296, []) := rfl
set_option maxRecDepth 20000 in theorem iGraphDeltasModel_prune_118 : ai_find (ai_tab mGraphDeltasModel_prune) 118 = some (.lsub, 119, 0, 0, 0, .null, []) := rfl
set_option maxRecDepth 20000 in theorem iGraphDeltasModel_prune_119 : ai_find (ai_tab mGraphDeltasModel_prune) 119 = some (.l2i, 120, 0, 0, 0, .null, []) := rfl
set_option maxRecDepth 20000 in theorem iGraphDeltasModel_prune_120 : ai_find (ai_tab mGraphDeltasModel_prune) 120 = some (.iconst 1, 121, 0, 0, 0, .int (nI 1), []) := rfl
set_option maxRecDepth 20000 in theorem iGraphDeltasModel_prune_121 : ai_find (ai_tab mGraphDeltasModel_prune) 121 = some (.bastore, 122, 0, 0, 0, .null, []) := rfl
set_option maxRecDepth 20000 in theorem iGraphDeltasModel_prune_122 : ai_find (ai_tab mGraphDeltasModel_prune) 122 = some (.iinc 4 1, 125, 4, 0, 0, .int (nI 1), []) := rfl
set_option maxRecDepth 20000 in theorem iGraphDeltasModel_prune_125 : ai_find (ai_tab mGraphDeltasModel_prune) 125 = some (.goto (-77), 128, 48, 0, 0, .null, []) := rfl
set_option maxRecDepth 20000 in theorem iGraphDeltasModel_prune_128 : ai_find (ai_tab mGraphDeltasModel_prune) 128 = some (.iinc 3 1, 131, 3, 0, 0, .int (nI 1), []) := rfl
set_option maxRecDepth 20000 in theorem iGraphDeltasModel_prune_131 : ai_find (ai_tab mGraphDeltasModel_prune) 131 = some (.goto (-92), 134, 39, 0, 0, .null, []) := rfl
set_option maxRecDepth 20000 in theorem iGraphDeltasModel_prune_134 : ai_find (ai_tab mGraphDeltasModel_prune) 134 = some (.iinc 2 1, 137, 2, 0, 0, .int (nI 1), []) := rfl
set_option maxRecDepth 20000 in theorem iGraphDeltasModel_prune_137 : ai_find (ai_tab mGraphDeltasModel_prune) 137 = some (.goto (-106), 140, 31, 0, 0, .null, []) := rfl
set_option maxRecDepth 20000 in theorem iGraphDeltasModel_prune_140 : ai_find (ai_tab mGraphDeltasModel_prune) 140 = some (.iconst 0, 141, 0, 0, 0, .int (nI 0), []) := rfl
set_option maxRecDepth 20000 in theorem iGraphDeltasModel_prune_141 : ai_find (ai_tab mGraphDeltasModel_prune) 141 = some (.istore_n 2, 142, 2, 0, 0, .null, []) := rfl
set_option maxRecDepth 20000 in theorem iGraphDeltasModel_prune_142 : ai_find (ai_tab mGraphDeltasModel_prune) 142 = some (.iload_n 2, 143, 2, 0, 0, .null, []) := rfl
set_option maxRecDepth 20000 in theorem iGraphDeltasModel_prune_143 : ai_find (ai_tab mGraphDeltasModel_prune) 143 = some (.bipush 16, 145, 0, 0, 0, .int (nI 16), []) := rfl
set_option maxRecDepth 20000 in theorem iGraphDeltasModel_prune_145 : ai_find (ai_tab mGraphDeltasModel_prune) 145 = some (.if_icmp .ge 48, 148, 193, 0, 0, .null, []) := rfl
set_option maxRecDepth 20000 in theorem iGraphDeltasModel_prune_148 : ai_find (ai_tab mGraphDeltasModel_prune) 148 = some (.aload_n 0, 149, 0, 0, 0, .null, []) := rfl
set_option maxRecDepth 20000 in theorem iGraphDeltasModel_prune_149 : ai_find (ai_tab mGraphDeltasModel_prune) 149 = some (.getfield 17, 152, 7, 3, 0, .null, []) := rfl
set_option maxRecDepth 20000 in theorem iGraphDeltasModel_prune_152 : ai_find (ai_tab mGraphDeltasModel_prune) 152 = some (.bipush 16, 154, 0, 0, 0, .int (nI 16), []) := rfl
set_option maxRecDepth 20000 in theorem iGraphDeltasModel_prune_154 : ai_find (ai_tab mGraphDeltasModel_prune) 154 = some (.iload_n 1, 155, 1, 0, 0, .null, []) := rfl
set_option maxRecDepth 20000 in theorem iGraphDeltasModel_prune_155 : ai_find (ai_tab mGraphDeltasModel_prune) 155 = some (.imul, 156, 0, 0, 0, .null, []) := rfl
set_option maxRecDepth 20000 in theorem iGraphDeltasModel_prune_156 : ai_find (ai_tab mGraphDeltasModel_prune) 156 = some (.iload_n 2, 157, 2, 0, 0, .null, []) := rfl
set_option maxRecDepth 20000 in theorem iGraphDeltasModel_prune_157 : ai_find (ai_tab mGraphDeltasModel_prune) 157 = some (.iadd, 158, 0, 0, 0, .null, []) := rfl
set_option maxRecDepth 20000 in theorem iGraphDeltasModel_prune_158 : ai_find (ai_tab mGraphDeltasModel_prune) 158 = some (.aload_n 0, 159, 0, 0, 0, .null, []) := rfl
set_option maxRecDepth 20000 in theorem iGraphDeltasModel_prune_159 : ai_find (ai_tab mGraphDeltasModel_prune) 159 = some (.getfield 17, 162, 7, 3, 0, .null, []) := rfl
set_option maxRecDepth 20000 in theorem iGraphDeltasModel_prune_162 : ai_find (ai_tab mGraphDeltasModel_prune) 162 = some (.bipush 16, 164, 0, 0, 0, .int (nI 16), []) := rfl
set_option maxRecDepth 20000 in theorem iGraphDeltasModel_prune_164 : ai_find (ai_tab mGraphDeltasModel_prune) 164 = some (.iload_n 1, 165, 1, 0, 0, .null, []) := rfl
set_option maxRecDepth 20000 in theorem iGraphDeltasModel_prune_165 : ai_find (ai_tab mGraphDeltasModel_prune) 165 = some (.imul, 166, 0, 0, 0, .null, []) := rfl
set_option maxRecDepth 20000 in theorem iGraphDeltasModel_prune_166 : ai_find (ai_tab mGraphDeltasModel_prune) 166 = some (.iload_n 2, 167, 2, 0, 0, .null, []) := rfl
set_option maxRecDepth 20000 in theorem iGraphDeltasModel_prune_167 : ai_find (ai_tab mGraphDeltasModel_prune) 167 = some (.iadd, 168, 0, 0, 0, .null, []) := rfl
set_option maxRecDepth 20000 in theorem iGraphDeltasModel_prune_168 : ai_find (ai_tab mGraphDeltasModel_prune) 168 = some (.baload, 169, 0, 0, 0, .null, []) := rfl
set_option maxRecDepth 20000 in theorem iGraphDeltasModel_prune_169 : ai_find (ai_tab mGraphDeltasModel_prune) 169 = some (.ifCond .eq 16, 172, 185, 0, 0, .null, []) := rfl
set_option maxRecDepth 20000 in theorem iGraphDeltasModel_prune_172 : ai_find (ai_tab mGraphDeltasModel_prune) 172 = some (.aload_n 0, 173, 0, 0, 0, .null, []) := rfl
set_option maxRecDepth 20000 in theorem iGraphDeltasModel_prune_173 : ai_find (ai_tab mGraphDeltasModel_prune) 173 = some (.getfield 28, 176, 7, 6, 0, .null, []) := rfl
set_option maxRecDepth 20000 in theorem iGraphDeltasModel_prune_176 : ai_find (ai_tab mGraphDeltasModel_prune) 176 = some (.iload_n 2, 177, 2, 0, 0, .null, []) := rfl
set_option maxRecDepth 20000 in theorem iGraphDeltasModel_prune_177 : ai_find (ai_tab mGraphDeltasModel_prune) 177 = some (.baload, 178, 0, 0, 0, .null, []) := rfl
set_option maxRecDepth 20000 in theorem iGraphDeltasModel_prune_178 : ai_find (ai_tab mGraphDeltasModel_prune) 178 = some (.ifCond .eq 7, 181, 185, 0, 0, .null, []) := rfl
set_option maxRecDepth 20000 in theorem iGraphDeltasModel_prune_181 : ai_find (ai_tab mGraphDeltasModel_prune) 181 = some (.iconst 1, 182, 0, 0, 0, .int (nI 1), []) := rfl
set_option maxRecDepth 20000 in theorem iGraphDeltasModel_prune_182 : ai_find (ai_tab mGraphDeltasModel_prune) 182 = some (.goto 4, 185, 186, 0, 0, .null, []) := rfl
set_option maxRecDepth 20000 in theorem iGraphDeltasModel_prune_185 : ai_find (ai_tab mGraphDeltasModel_prune) 185 = some (.iconst 0, 186, 0, 0, 0, .int (nI 0), []) := rfl
set_option maxRecDepth 20000 in theorem iGraphDeltasModel_prune_186 : ai_find (ai_tab mGraphDeltasModel_prune) 186 = some (.bastore, 187, 0, 0, 0, .null, []) := rfl
set_option maxRecDepth 20000 in theorem iGraphDeltasModel_prune_187 : ai_find (ai_tab mGraphDeltasModel_prune) 187 = some (.iinc 2 1, 190, 2, 0, 0, .int (nI 1), []) := rfl
set_option maxRecDepth 20000 in theorem iGraphDeltasModel_prune_190 : ai_find (ai_tab mGraphDeltasModel_prune) 190 = some (.goto (-48), 193, 142, 0, 0, .null, []) := rfl
set_option maxRecDepth 20000 in theorem iGraphDeltasModel_prune_193 : ai_find (ai_tab mGraphDeltasModel_prune) 193 = some (.return_, 194, 0, 0, 0, .null, []) := rfl
theorem iGraphDeltasModel_put_0 : ai_find (ai_tab mGraphDeltasModel_put) 0 = some (.aload_n 0, 1, 0, 0, 0, .null, []) := rfl
theorem iGraphDeltasModel_put_1 : ai_find (ai_tab mGraphDeltasModel_put) 1 = some (.iload_n 1, 2, 1, 0, 0, .null, []) := rfl
theorem iGraphDeltasModel_put_2 : ai_find (ai_tab mGraphDeltasModel_put) 2 = some (.iload_n 2, 3, 2, 0, 0, .null, []) := rfl
theorem iGraphDeltasModel_put_3 : ai_find (ai_tab mGraphDeltasModel_put) 3 = some (.invokevirtual 80, 6, 169, 3, 1, .ref 7, []) := rfl
theorem iGraphDeltasModel_put_6 : ai_find (ai_tab mGraphDeltasModel_put) 6 = some (.ifCond .ne 5, 9, 11, 0, 0, .null, []) := rfl
theorem iGraphDeltasModel_put_9 : ai_find (ai_tab mGraphDeltasModel_put) 9 = some (.iconst 0, 10, 0, 0, 0, .int (nI 0), []) := rfl
theorem iGraphDeltasModel_put_10 : ai_find (ai_tab mGraphDeltasModel_put) 10 = some (.ireturn, 11, 1, 0, 0, .null, []) := rfl
theorem iGraphDeltasModel_put_11 : ai_find (ai_tab mGraphDeltasModel_put) 11 = some (.aload_n 0, 12, 0, 0, 0, .null, []) := rfl
theorem iGraphDeltasModel_put_12 : ai_find (ai_tab mGraphDeltasModel_put) 12 = some (.getfield 24, 15, 7, 5, 0, .null, []) := rfl
theorem iGraphDeltasModel_put_15 : ai_find (ai_tab mGraphDeltasModel_put) 15 = some (.bipush 6, 17, 0, 0, 0, .int (nI 6), []) := rfl
theorem iGraphDeltasModel_put_17 : ai_find (ai_tab mGraphDeltasModel_put) 17 = some (.iload_n 1, 18, 1, 0, 0, .null, []) := rfl
theorem iGraphDeltasModel_put_18 : ai_find (ai_tab mGraphDeltasModel_put) 18 = some (.imul, 19, 0, 0, 0, .null, []) := rfl
theorem iGraphDeltasModel_put_19 : ai_find (ai_tab mGraphDeltasModel_put) 19 = some (.iload_n 2, 20, 2, 0, 0, .null, []) := rfl
theorem iGraphDeltasModel_put_20 : ai_find (ai_tab mGraphDeltasModel_put) 20 = some (.iadd, 21, 0, 0, 0, .null, []) := rfl
theorem iGraphDeltasModel_put_21 : ai_find (ai_tab mGraphDeltasModel_put) 21 = some (.iload_n 3, 22, 3, 0, 0, .null, []) := rfl
theorem iGraphDeltasModel_put_22 : ai_find (ai_tab mGraphDeltasModel_put) 22 = some (.i2l, 23, 0, 0, 0, .null, []) := rfl
theorem iGraphDeltasModel_put_23 : ai_find (ai_tab mGraphDeltasModel_put) 23 = some (.lastore, 24, 0, 0, 0, .null, []) := rfl
theorem iGraphDeltasModel_put_24 : ai_find (ai_tab mGraphDeltasModel_put) 24 = some (.iconst 1, 25, 0, 0, 0, .int (nI 1), []) := rfl
theorem iGraphDeltasModel_put_25 : ai_find (ai_tab mGraphDeltasModel_put) 25 = some (.ireturn, 26, 1, 0, 0, .null, []) := rfl
theorem iGraphDeltasModel_rank_0 : ai_find (ai_tab mGraphDeltasModel_rank) 0 = some (.aload_n 0, 1, 0, 0, 0, .null, []) := rfl
theorem iGraphDeltasModel_rank_1 : ai_find (ai_tab mGraphDeltasModel_rank) 1 = some (.getfield 34, 4, 7, 8, 0, .null, []) := rfl
theorem iGraphDeltasModel_rank_4 : ai_find (ai_tab mGraphDeltasModel_rank) 4 = some (.iload_n 1, 5, 1, 0, 0, .null, []) := rfl
theorem iGraphDeltasModel_rank_5 : ai_find (ai_tab mGraphDeltasModel_rank) 5 = some (.iaload, 6, 0, 0, 0, .null, []) := rfl
theorem iGraphDeltasModel_rank_6 : ai_find (ai_tab mGraphDeltasModel_rank) 6 = some (.iconst 1, 7, 0, 0, 0, .int (nI 1), []) := rfl
theorem iGraphDeltasModel_rank_7 : ai_find (ai_tab mGraphDeltasModel_rank) 7 = some (.if_icmp .ne 12, 10, 19, 0, 0, .null, []) := rfl
theorem iGraphDeltasModel_rank_10 : ai_find (ai_tab mGraphDeltasModel_rank) 10 = some (.aload_n 0, 11, 0, 0, 0, .null, []) := rfl
theorem iGraphDeltasModel_rank_11 : ai_find (ai_tab mGraphDeltasModel_rank) 11 = some (.getfield 37, 14, 7, 9, 0, .null, []) := rfl
theorem iGraphDeltasModel_rank_14 : ai_find (ai_tab mGraphDeltasModel_rank) 14 = some (.iload_n 1, 15, 1, 0, 0, .null, []) := rfl
theorem iGraphDeltasModel_rank_15 : ai_find (ai_tab mGraphDeltasModel_rank) 15 = some (.iaload, 16, 0, 0, 0, .null, []) := rfl
theorem iGraphDeltasModel_rank_16 : ai_find (ai_tab mGraphDeltasModel_rank) 16 = some (.goto 23, 19, 39, 0, 0, .null, []) := rfl
theorem iGraphDeltasModel_rank_19 : ai_find (ai_tab mGraphDeltasModel_rank) 19 = some (.sipush 1000, 22, 0, 0, 0, .int (nI 1000), []) := rfl
theorem iGraphDeltasModel_rank_22 : ai_find (ai_tab mGraphDeltasModel_rank) 22 = some (.bipush 100, 24, 0, 0, 0, .int (nI 100), []) := rfl
theorem iGraphDeltasModel_rank_24 : ai_find (ai_tab mGraphDeltasModel_rank) 24 = some (.aload_n 0, 25, 0, 0, 0, .null, []) := rfl
theorem iGraphDeltasModel_rank_25 : ai_find (ai_tab mGraphDeltasModel_rank) 25 = some (.getfield 37, 28, 7, 9, 0, .null, []) := rfl
theorem iGraphDeltasModel_rank_28 : ai_find (ai_tab mGraphDeltasModel_rank) 28 = some (.iload_n 1, 29, 1, 0, 0, .null, []) := rfl
theorem iGraphDeltasModel_rank_29 : ai_find (ai_tab mGraphDeltasModel_rank) 29 = some (.iaload, 30, 0, 0, 0, .null, []) := rfl
theorem iGraphDeltasModel_rank_30 : ai_find (ai_tab mGraphDeltasModel_rank) 30 = some (.imul, 31, 0, 0, 0, .null, []) := rfl
theorem iGraphDeltasModel_rank_31 : ai_find (ai_tab mGraphDeltasModel_rank) 31 = some (.iadd, 32, 0, 0, 0, .null, []) := rfl
theorem iGraphDeltasModel_rank_32 : ai_find (ai_tab mGraphDeltasModel_rank) 32 = some (.aload_n 0, 33, 0, 0, 0, .null, []) := rfl
theorem iGraphDeltasModel_rank_33 : ai_find (ai_tab mGraphDeltasModel_rank) 33 = some (.getfield 40, 36, 7, 10, 0, .null, []) := rfl
theorem iGraphDeltasModel_rank_36 : ai_find (ai_tab mGraphDeltasModel_rank) 36 = some (.iload_n 1, 37, 1, 0, 0, .null, []) := rfl
theorem iGraphDeltasModel_rank_37 : ai_find (ai_tab mGraphDeltasModel_rank) 37 = some (.iaload, 38, 0, 0, 0, .null, []) := rfl
theorem iGraphDeltasModel_rank_38 : ai_find (ai_tab mGraphDeltasModel_rank) 38 = some (.iadd, 39, 0, 0, 0, .null, []) := rfl
theorem iGraphDeltasModel_rank_39 : ai_find (ai_tab mGraphDeltasModel_rank) 39 = some (.ireturn, 40, 0, 0, 0, .null, []) := rfl
theorem iGraphDeltasModel_readDelta_0 : ai_find (ai_tab mGraphDeltasModel_readDelta) 0 = some (.aload_n 0, 1, 0, 0, 0, .null, []) := rfl
theorem iGraphDeltasModel_readDelta_1 : ai_find (ai_tab mGraphDeltasModel_readDelta) 1 = some (.iconst 3, 2, 0, 0, 0, .int (nI 3), []) := rfl
theorem iGraphDeltasModel_readDelta_2 : ai_find (ai_tab mGraphDeltasModel_readDelta) 2 = some (.invokevirtual 131, 5, 134, 2, 1, .ref 7, []) := rfl
theorem iGraphDeltasModel_readDelta_5 : ai_find (ai_tab mGraphDeltasModel_readDelta) 5 = some (.aload_n 0, 6, 0, 0, 0, .null, []) := rfl
theorem iGraphDeltasModel_readDelta_6 : ai_find (ai_tab mGraphDeltasModel_readDelta) 6 = some (.iconst 0, 7, 0, 0, 0, .int (nI 0), []) := rfl
theorem iGraphDeltasModel_readDelta_7 : ai_find (ai_tab mGraphDeltasModel_readDelta) 7 = some (.putfield 213, 10, 7, 22, 0, .null, []) := rfl
theorem iGraphDeltasModel_readDelta_10 : ai_find (ai_tab mGraphDeltasModel_readDelta) 10 = some (.aload_n 0, 11, 0, 0, 0, .null, []) := rfl
theorem iGraphDeltasModel_readDelta_11 : ai_find (ai_tab mGraphDeltasModel_readDelta) 11 = some (.iconst 1, 12, 0, 0, 0, .int (nI 1), []) := rfl
theorem iGraphDeltasModel_readDelta_12 : ai_find (ai_tab mGraphDeltasModel_readDelta) 12 = some (.putfield 216, 15, 7, 23, 1, .null, []) := rfl
theorem iGraphDeltasModel_readDelta_15 : ai_find (ai_tab mGraphDeltasModel_readDelta) 15 = some (.aload_n 0, 16, 0, 0, 0, .null, []) := rfl
theorem iGraphDeltasModel_readDelta_16 : ai_find (ai_tab mGraphDeltasModel_readDelta) 16 = some (.aload_n 0, 17, 0, 0, 0, .null, []) := rfl
theorem iGraphDeltasModel_readDelta_17 : ai_find (ai_tab mGraphDeltasModel_readDelta) 17 = some (.invokevirtual 220, 20, 153, 1, 1, .ref 7, []) := rfl
theorem iGraphDeltasModel_readDelta_20 : ai_find (ai_tab mGraphDeltasModel_readDelta) 20 = some (.bipush 68, 22, 0, 0, 0, .int (nI 68), []) := rfl
theorem iGraphDeltasModel_readDelta_22 : ai_find (ai_tab mGraphDeltasModel_readDelta) 22 = some (.if_icmp .ne 14, 25, 36, 0, 0, .null, []) := rfl
theorem iGraphDeltasModel_readDelta_25 : ai_find (ai_tab mGraphDeltasModel_readDelta) 25 = some (.aload_n 0, 26, 0, 0, 0, .null, []) := rfl
theorem iGraphDeltasModel_readDelta_26 : ai_find (ai_tab mGraphDeltasModel_readDelta) 26 = some (.getfield 216, 29, 7, 23, 0, .null, []) := rfl
theorem iGraphDeltasModel_readDelta_29 : ai_find (ai_tab mGraphDeltasModel_readDelta) 29 = some (.ifCond .eq 7, 32, 36, 0, 0, .null, []) := rfl
theorem iGraphDeltasModel_readDelta_32 : ai_find (ai_tab mGraphDeltasModel_readDelta) 32 = some (.iconst 1, 33, 0, 0, 0, .int (nI 1), []) := rfl
theorem iGraphDeltasModel_readDelta_33 : ai_find (ai_tab mGraphDeltasModel_readDelta) 33 = some (.goto 4, 36, 37, 0, 0, .null, []) := rfl
theorem iGraphDeltasModel_readDelta_36 : ai_find (ai_tab mGraphDeltasModel_readDelta) 36 = some (.iconst 0, 37, 0, 0, 0, .int (nI 0), []) := rfl
theorem iGraphDeltasModel_readDelta_37 : ai_find (ai_tab mGraphDeltasModel_readDelta) 37 = some (.putfield 216, 40, 7, 23, 1, .null, []) := rfl
theorem iGraphDeltasModel_readDelta_40 : ai_find (ai_tab mGraphDeltasModel_readDelta) 40 = some (.aload_n 0, 41, 0, 0, 0, .null, []) := rfl
theorem iGraphDeltasModel_readDelta_41 : ai_find (ai_tab mGraphDeltasModel_readDelta) 41 = some (.invokevirtual 220, 44, 153, 1, 1, .ref 7, []) := rfl
theorem iGraphDeltasModel_readDelta_44 : ai_find (ai_tab mGraphDeltasModel_readDelta) 44 = some (.istore_n 1, 45, 1, 0, 0, .null, []) := rfl
theorem iGraphDeltasModel_readDelta_45 : ai_find (ai_tab mGraphDeltasModel_readDelta) 45 = some (.aload_n 0, 46, 0, 0, 0, .null, []) := rfl
theorem iGraphDeltasModel_readDelta_46 : ai_find (ai_tab mGraphDeltasModel_readDelta) 46 = some (.getfield 216, 49, 7, 23, 0, .null, []) := rfl
theorem iGraphDeltasModel_readDelta_49 : ai_find (ai_tab mGraphDeltasModel_readDelta) 49 = some (.ifCond .eq 47, 52, 96, 0, 0, .null, []) := rfl
theorem iGraphDeltasModel_readDelta_52 : ai_find (ai_tab mGraphDeltasModel_readDelta) 52 = some (.iload_n 1, 53, 1, 0, 0, .null, []) := rfl
theorem iGraphDeltasModel_readDelta_53 : ai_find (ai_tab mGraphDeltasModel_readDelta) 53 = some (.ifCond .eq 43, 56, 96, 0, 0, .null, []) := rfl
theorem iGraphDeltasModel_readDelta_56 : ai_find (ai_tab mGraphDeltasModel_readDelta) 56 = some (.aload_n 0, 57, 0, 0, 0, .null, []) := rfl
theorem iGraphDeltasModel_readDelta_57 : ai_find (ai_tab mGraphDeltasModel_readDelta) 57 = some (.aload_n 0, 58, 0, 0, 0, .null, []) := rfl
theorem iGraphDeltasModel_readDelta_58 : ai_find (ai_tab mGraphDeltasModel_readDelta) 58 = some (.getfield 31, 61, 7, 7, 0, .null, []) := rfl
theorem iGraphDeltasModel_readDelta_61 : ai_find (ai_tab mGraphDeltasModel_readDelta) 61 = some (.iconst 3, 62, 0, 0, 0, .int (nI 3), []) := rfl
theorem iGraphDeltasModel_readDelta_62 : ai_find (ai_tab mGraphDeltasModel_readDelta) 62 = some (.iaload, 63, 0, 0, 0, .null, []) := rfl
theorem iGraphDeltasModel_readDelta_63 : ai_find (ai_tab mGraphDeltasModel_readDelta) 63 = some (.bipush 127, 65, 0, 0, 0, .int (nI 127), []) := rfl
theorem iGraphDeltasModel_readDelta_65 : ai_find (ai_tab mGraphDeltasModel_readDelta) 65 = some (.if_icmp .ge 7, 68, 72, 0, 0, .null, []) := rfl
theorem iGraphDeltasModel_readDelta_68 : ai_find (ai_tab mGraphDeltasModel_readDelta) 68 = some (.iconst 1, 69, 0, 0, 0, .int (nI 1), []) := rfl
theorem iGraphDeltasModel_readDelta_69 : ai_find (ai_tab mGraphDeltasModel_readDelta) 69 = some (.goto 4, 72, 73, 0, 0, .null, []) := rfl
theorem iGraphDeltasModel_readDelta_72 : ai_find (ai_tab mGraphDeltasModel_readDelta) 72 = some (.iconst 0, 73, 0, 0, 0, .int (nI 0), []) := rfl
theorem iGraphDeltasModel_readDelta_73 : ai_find (ai_tab mGraphDeltasModel_readDelta) 73 = some (.putfield 216, 76, 7, 23, 1, .null, []) := rfl
theorem iGraphDeltasModel_readDelta_76 : ai_find (ai_tab mGraphDeltasModel_readDelta) 76 = some (.aload_n 0, 77, 0, 0, 0, .null, []) := rfl
theorem iGraphDeltasModel_readDelta_77 : ai_find (ai_tab mGraphDeltasModel_readDelta) 77 = some (.getfield 216, 80, 7, 23, 0, .null, []) := rfl
theorem iGraphDeltasModel_readDelta_80 : ai_find (ai_tab mGraphDeltasModel_readDelta) 80 = some (.ifCond .eq 8, 83, 88, 0, 0, .null, []) := rfl
theorem iGraphDeltasModel_readDelta_83 : ai_find (ai_tab mGraphDeltasModel_readDelta) 83 = some (.aload_n 0, 84, 0, 0, 0, .null, []) := rfl
theorem iGraphDeltasModel_readDelta_84 : ai_find (ai_tab mGraphDeltasModel_readDelta) 84 = some (.iload_n 1, 85, 1, 0, 0, .null, []) := rfl
theorem iGraphDeltasModel_readDelta_85 : ai_find (ai_tab mGraphDeltasModel_readDelta) 85 = some (.invokevirtual 229, 88, 162, 2, 1, .ref 7, []) := rfl
theorem iGraphDeltasModel_readDelta_88 : ai_find (ai_tab mGraphDeltasModel_readDelta) 88 = some (.aload_n 0, 89, 0, 0, 0, .null, []) := rfl
theorem iGraphDeltasModel_readDelta_89 : ai_find (ai_tab mGraphDeltasModel_readDelta) 89 = some (.invokevirtual 220, 92, 153, 1, 1, .ref 7, []) := rfl
theorem iGraphDeltasModel_readDelta_92 : ai_find (ai_tab mGraphDeltasModel_readDelta) 92 = some (.istore_n 1, 93, 1, 0, 0, .null, []) := rfl
theorem iGraphDeltasModel_readDelta_93 : ai_find (ai_tab mGraphDeltasModel_readDelta) 93 = some (.goto (-48), 96, 45, 0, 0, .null, []) := rfl
theorem iGraphDeltasModel_readDelta_96 : ai_find (ai_tab mGraphDeltasModel_readDelta) 96 = some (.aload_n 0, 97, 0, 0, 0, .null, []) := rfl
theorem iGraphDeltasModel_readDelta_97 : ai_find (ai_tab mGraphDeltasModel_readDelta) 97 = some (.invokevirtual 220, 100, 153, 1, 1, .ref 7, []) := rfl
theorem iGraphDeltasModel_readDelta_100 : ai_find (ai_tab mGraphDeltasModel_readDelta) 100 = some (.pop, 101, 0, 0, 0, .null, []) := rfl
theorem iGraphDeltasModel_readDelta_101 : ai_find (ai_tab mGraphDeltasModel_readDelta) 101 = some (.aload_n 0, 102, 0, 0, 0, .null, []) := rfl
theorem iGraphDeltasModel_readDelta_102 : ai_find (ai_tab mGraphDeltasModel_readDelta) 102 = some (.aload_n 0, 103, 0, 0, 0, .null, []) := rfl
theorem iGraphDeltasModel_readDelta_103 : ai_find (ai_tab mGraphDeltasModel_readDelta) 103 = some (.getfield 216, 106, 7, 23, 0, .null, []) := rfl
theorem iGraphDeltasModel_readDelta_106 : ai_find (ai_tab mGraphDeltasModel_readDelta) 106 = some (.ifCond .eq 18, 109, 124, 0, 0, .null, []) := rfl
theorem iGraphDeltasModel_readDelta_109 : ai_find (ai_tab mGraphDeltasModel_readDelta) 109 = some (.aload_n 0, 110, 0, 0, 0, .null, []) := rfl
theorem iGraphDeltasModel_readDelta_110 : ai_find (ai_tab mGraphDeltasModel_readDelta) 110 = some (.getfield 213, 113, 7, 22, 0, .null, []) := rfl
theorem iGraphDeltasModel_readDelta_113 : ai_find (ai_tab mGraphDeltasModel_readDelta) 113 = some (.aload_n 0, 114, 0, 0, 0, .null, []) := rfl
theorem iGraphDeltasModel_readDelta_114 : ai_find (ai_tab mGraphDeltasModel_readDelta) 114 = some (.getfield 210, 117, 7, 18, 0, .null, []) := rfl
set_option maxRecDepth 20000 in theorem iGraphDeltasModel_readDelta_117 : ai_find (ai_tab mGraphDeltasModel_readDelta) 117 = some (.if_icmp .ne 7, 120, 124, 0, 0, .null, []) := rfl
set_option maxRecDepth 20000 in theorem iGraphDeltasModel_readDelta_120 : ai_find (ai_tab mGraphDeltasModel_readDelta) 120 = some (.iconst 1, 121, 0, 0, 0, .int (nI 1), []) := rfl
set_option maxRecDepth 20000 in theorem iGraphDeltasModel_readDelta_121 : ai_find (ai_tab mGraphDeltasModel_readDelta) 121 = some (.goto 4, 124, 125, 0, 0, .null, []) := rfl
set_option maxRecDepth 20000 in theorem iGraphDeltasModel_readDelta_124 : ai_find (ai_tab mGraphDeltasModel_readDelta) 124 = some (.iconst 0, 125, 0, 0, 0, .int (nI 0), []) := rfl
set_option maxRecDepth 20000 in theorem iGraphDeltasModel_readDelta_125 : ai_find (ai_tab mGraphDeltasModel_readDelta) 125 = some (.putfield 216, 128, 7, 23, 1, .null, []) := rfl
set_option maxRecDepth 20000 in theorem iGraphDeltasModel_readDelta_128 : ai_find (ai_tab mGraphDeltasModel_readDelta) 128 = some (.return_, 129, 0, 0, 0, .null, []) := rfl
theorem iGraphDeltasModel_readOperation_0 : ai_find (ai_tab mGraphDeltasModel_readOperation) 0 = some (.aload_n 0, 1, 0, 0, 0, .null, []) := rfl
theorem iGraphDeltasModel_readOperation_1 : ai_find (ai_tab mGraphDeltasModel_readOperation) 1 = some (.invokevirtual 220, 4, 153, 1, 1, .ref 7, []) := rfl
theorem iGraphDeltasModel_readOperation_4 : ai_find (ai_tab mGraphDeltasModel_readOperation) 4 = some (.istore_n 2, 5, 2, 0, 0, .null, []) := rfl
theorem iGraphDeltasModel_readOperation_5 : ai_find (ai_tab mGraphDeltasModel_readOperation) 5 = some (.aload_n 0, 6, 0, 0, 0, .null, []) := rfl
theorem iGraphDeltasModel_readOperation_6 : ai_find (ai_tab mGraphDeltasModel_readOperation) 6 = some (.invokevirtual 220, 9, 153, 1, 1, .ref 7, []) := rfl
theorem iGraphDeltasModel_readOperation_9 : ai_find (ai_tab mGraphDeltasModel_readOperation) 9 = some (.istore_n 3, 10, 3, 0, 0, .null, []) := rfl
theorem iGraphDeltasModel_readOperation_10 : ai_find (ai_tab mGraphDeltasModel_readOperation) 10 = some (.iload_n 1, 11, 1, 0, 0, .null, []) := rfl
theorem iGraphDeltasModel_readOperation_11 : ai_find (ai_tab mGraphDeltasModel_readOperation) 11 = some (.iconst 1, 12, 0, 0, 0, .int (nI 1), []) := rfl
theorem iGraphDeltasModel_readOperation_12 : ai_find (ai_tab mGraphDeltasModel_readOperation) 12 = some (.if_icmp .ne 14, 15, 26, 0, 0, .null, []) := rfl
theorem iGraphDeltasModel_readOperation_15 : ai_find (ai_tab mGraphDeltasModel_readOperation) 15 = some (.aload_n 0, 16, 0, 0, 0, .null, []) := rfl
theorem iGraphDeltasModel_readOperation_16 : ai_find (ai_tab mGraphDeltasModel_readOperation) 16 = some (.iconst 3, 17, 0, 0, 0, .int (nI 3), []) := rfl
theorem iGraphDeltasModel_readOperation_17 : ai_find (ai_tab mGraphDeltasModel_readOperation) 17 = some (.iload_n 1, 18, 1, 0, 0, .null, []) := rfl
theorem iGraphDeltasModel_readOperation_18 : ai_find (ai_tab mGraphDeltasModel_readOperation) 18 = some (.iload_n 2, 19, 2, 0, 0, .null, []) := rfl
theorem iGraphDeltasModel_readOperation_19 : ai_find (ai_tab mGraphDeltasModel_readOperation) 19 = some (.iload_n 3, 20, 3, 0, 0, .null, []) := rfl
theorem iGraphDeltasModel_readOperation_20 : ai_find (ai_tab mGraphDeltasModel_readOperation) 20 = some (.iconst 0, 21, 0, 0, 0, .int (nI 0), []) := rfl
theorem iGraphDeltasModel_readOperation_21 : ai_find (ai_tab mGraphDeltasModel_readOperation) 21 = some (.lconst 0, 22, 0, 0, 0, .long 0, []) := rfl
theorem iGraphDeltasModel_readOperation_22 : ai_find (ai_tab mGraphDeltasModel_readOperation) 22 = some (.invokevirtual 116, 25, 119, 7, 1, .ref 7, []) := rfl
theorem iGraphDeltasModel_readOperation_25 : ai_find (ai_tab mGraphDeltasModel_readOperation) 25 = some (.return_, 26, 0, 0, 0, .null, []) := rfl
theorem iGraphDeltasModel_readOperation_26 : ai_find (ai_tab mGraphDeltasModel_readOperation) 26 = some (.aload_n 0, 27, 0, 0, 0, .null, []) := rfl
theorem iGraphDeltasModel_readOperation_27 : ai_find (ai_tab mGraphDeltasModel_readOperation) 27 = some (.invokevirtual 220, 30, 153, 1, 1, .ref 7, []) := rfl
theorem iGraphDeltasModel_readOperation_30 : ai_find (ai_tab mGraphDeltasModel_readOperation) 30 = some (.istore 4, 32, 4, 0, 0, .null, []) := rfl
theorem iGraphDeltasModel_readOperation_32 : ai_find (ai_tab mGraphDeltasModel_readOperation) 32 = some (.iload_n 1, 33, 1, 0, 0, .null, []) := rfl
theorem iGraphDeltasModel_readOperation_33 : ai_find (ai_tab mGraphDeltasModel_readOperation) 33 = some (.iconst 2, 34, 0, 0, 0, .int (nI 2), []) := rfl
theorem iGraphDeltasModel_readOperation_34 : ai_find (ai_tab mGraphDeltasModel_readOperation) 34 = some (.if_icmp .ne 47, 37, 81, 0, 0, .null, []) := rfl
theorem iGraphDeltasModel_readOperation_37 : ai_find (ai_tab mGraphDeltasModel_readOperation) 37 = some (.iload 4, 39, 4, 0, 0, .null, []) := rfl
theorem iGraphDeltasModel_readOperation_39 : ai_find (ai_tab mGraphDeltasModel_readOperation) 39 = some (.iconst 1, 40, 0, 0, 0, .int (nI 1), []) := rfl
theorem iGraphDeltasModel_readOperation_40 : ai_find (ai_tab mGraphDeltasModel_readOperation) 40 = some (.if_icmp .ne 11, 43, 51, 0, 0, .null, []) := rfl
theorem iGraphDeltasModel_readOperation_43 : ai_find (ai_tab mGraphDeltasModel_readOperation) 43 = some (.aload_n 0, 44, 0, 0, 0, .null, []) := rfl
theorem iGraphDeltasModel_readOperation_44 : ai_find (ai_tab mGraphDeltasModel_readOperation) 44 = some (.invokevirtual 226, 47, 154, 1, 1, .ref 7, []) := rfl
theorem iGraphDeltasModel_readOperation_47 : ai_find (ai_tab mGraphDeltasModel_readOperation) 47 = some (.i2l, 48, 0, 0, 0, .null, []) := rfl
theorem iGraphDeltasModel_readOperation_48 : ai_find (ai_tab mGraphDeltasModel_readOperation) 48 = some (.goto 18, 51, 66, 0, 0, .null, []) := rfl
theorem iGraphDeltasModel_readOperation_51 : ai_find (ai_tab mGraphDeltasModel_readOperation) 51 = some (.iload 4, 53, 4, 0, 0, .null, []) := rfl
theorem iGraphDeltasModel_readOperation_53 : ai_find (ai_tab mGraphDeltasModel_readOperation) 53 = some (.iconst 2, 54, 0, 0, 0, .int (nI 2), []) := rfl
theorem iGraphDeltasModel_readOperation_54 : ai_find (ai_tab mGraphDeltasModel_readOperation) 54 = some (.if_icmp .ne 11, 57, 65, 0, 0, .null, []) := rfl
theorem iGraphDeltasModel_readOperation_57 : ai_find (ai_tab mGraphDeltasModel_readOperation) 57 = some (.aload_n 0, 58, 0, 0, 0, .null, []) := rfl
theorem iGraphDeltasModel_readOperation_58 : ai_find (ai_tab mGraphDeltasModel_readOperation) 58 = some (.invokevirtual 220, 61, 153, 1, 1, .ref 7, []) := rfl
theorem iGraphDeltasModel_readOperation_61 : ai_find (ai_tab mGraphDeltasModel_readOperation) 61 = some (.i2l, 62, 0, 0, 0, .null, []) := rfl
theorem iGraphDeltasModel_readOperation_62 : ai_find (ai_tab mGraphDeltasModel_readOperation) 62 = some (.goto 4, 65, 66, 0, 0, .null, []) := rfl
theorem iGraphDeltasModel_readOperation_65 : ai_find (ai_tab mGraphDeltasModel_readOperation) 65 = some (.lconst 0, 66, 0, 0, 0, .long 0, []) := rfl
theorem iGraphDeltasModel_readOperation_66 : ai_find (ai_tab mGraphDeltasModel_readOperation) 66 = some (.lstore 5, 68, 5, 0, 0, .null, []) := rfl
theorem iGraphDeltasModel_readOperation_68 : ai_find (ai_tab mGraphDeltasModel_readOperation) 68 = some (.aload_n 0, 69, 0, 0, 0, .null, []) := rfl
theorem iGraphDeltasModel_readOperation_69 : ai_find (ai_tab mGraphDeltasModel_readOperation) 69 = some (.iconst 3, 70, 0, 0, 0, .int (nI 3), []) := rfl
theorem iGraphDeltasModel_readOperation_70 : ai_find (ai_tab mGraphDeltasModel_readOperation) 70 = some (.iload_n 1, 71, 1, 0, 0, .null, []) := rfl
theorem iGraphDeltasModel_readOperation_71 : ai_find (ai_tab mGraphDeltasModel_readOperation) 71 = some (.iload_n 2, 72, 2, 0, 0, .null, []) := rfl
theorem iGraphDeltasModel_readOperation_72 : ai_find (ai_tab mGraphDeltasModel_readOperation) 72 = some (.iload_n 3, 73, 3, 0, 0, .null, []) := rfl
theorem iGraphDeltasModel_readOperation_73 : ai_find (ai_tab mGraphDeltasModel_readOperation) 73 = some (.iload 4, 75, 4, 0, 0, .null, []) := rfl
theorem iGraphDeltasModel_readOperation_75 : ai_find (ai_tab mGraphDeltasModel_readOperation) 75 = some (.lload 5, 77, 5, 0, 0, .null, []) := rfl
theorem iGraphDeltasModel_readOperation_77 : ai_find (ai_tab mGraphDeltasModel_readOperation) 77 = some (.invokevirtual 116, 80, 119, 7, 1, .ref 7, []) := rfl
theorem iGraphDeltasModel_readOperation_80 : ai_find (ai_tab mGraphDeltasModel_readOperation) 80 = some (.return_, 81, 0, 0, 0, .null, []) := rfl
theorem iGraphDeltasModel_readOperation_81 : ai_find (ai_tab mGraphDeltasModel_readOperation) 81 = some (.aload_n 0, 82, 0, 0, 0, .null, []) := rfl
theorem iGraphDeltasModel_readOperation_82 : ai_find (ai_tab mGraphDeltasModel_readOperation) 82 = some (.invokevirtual 220, 85, 153, 1, 1, .ref 7, []) := rfl
theorem iGraphDeltasModel_readOperation_85 : ai_find (ai_tab mGraphDeltasModel_readOperation) 85 = some (.istore 5, 87, 5, 0, 0, .null, []) := rfl
theorem iGraphDeltasModel_readOperation_87 : ai_find (ai_tab mGraphDeltasModel_readOperation) 87 = some (.aload_n 0, 88, 0, 0, 0, .null, []) := rfl
theorem iGraphDeltasModel_readOperation_88 : ai_find (ai_tab mGraphDeltasModel_readOperation) 88 = some (.aload_n 0, 89, 0, 0, 0, .null, []) := rfl
theorem iGraphDeltasModel_readOperation_89 : ai_find (ai_tab mGraphDeltasModel_readOperation) 89 = some (.getfield 216, 92, 7, 23, 0, .null, []) := rfl
theorem iGraphDeltasModel_readOperation_92 : ai_find (ai_tab mGraphDeltasModel_readOperation) 92 = some (.ifCond .eq 19, 95, 111, 0, 0, .null, []) := rfl
theorem iGraphDeltasModel_readOperation_95 : ai_find (ai_tab mGraphDeltasModel_readOperation) 95 = some (.iload_n 1, 96, 1, 0, 0, .null, []) := rfl
theorem iGraphDeltasModel_readOperation_96 : ai_find (ai_tab mGraphDeltasModel_readOperation) 96 = some (.iconst 3, 97, 0, 0, 0, .int (nI 3), []) := rfl
theorem iGraphDeltasModel_readOperation_97 : ai_find (ai_tab mGraphDeltasModel_readOperation) 97 = some (.if_icmp .ne 14, 100, 111, 0, 0, .null, []) := rfl
theorem iGraphDeltasModel_readOperation_100 : ai_find (ai_tab mGraphDeltasModel_readOperation) 100 = some (.iload 5, 102, 5, 0, 0, .null, []) := rfl
theorem iGraphDeltasModel_readOperation_102 : ai_find (ai_tab mGraphDeltasModel_readOperation) 102 = some (.bipush 6, 104, 0, 0, 0, .int (nI 6), []) := rfl
set_option maxRecDepth 20000 in theorem iGraphDeltasModel_readOperation_104 : ai_find (ai_tab mGraphDeltasModel_readOperation) 104 = some (.if_icmp .gt 7, 107, 111, 0, 0, .null, []) := rfl
set_option maxRecDepth 20000 in theorem iGraphDeltasModel_readOperation_107 : ai_find (ai_tab mGraphDeltasModel_readOperation) 107 = some (.iconst 1, 108, 0, 0, 0, .int (nI 1), []) := rfl
set_option maxRecDepth 20000 in theorem iGraphDeltasModel_readOperation_108 : ai_find (ai_tab mGraphDeltasModel_readOperation) 108 = some (.goto 4, 111, 112, 0, 0, .null, []) := rfl
set_option maxRecDepth 20000 in theorem iGraphDeltasModel_readOperation_111 : ai_find (ai_tab mGraphDeltasModel_readOperation) 111 = some (.iconst 0, 112, 0, 0, 0, .int (nI 0), []) := rfl
set_option maxRecDepth 20000 in theorem iGraphDeltasModel_readOperation_112 : ai_find (ai_tab mGraphDeltasModel_readOperation) 112 = some (.putfield 216, 115, 7, 23, 1, .null, []) := rfl
set_option maxRecDepth 20000 in theorem iGraphDeltasModel_readOperation_115 : ai_find (ai_tab mGraphDeltasModel_readOperation) 115 = some (.aload_n 0, 116, 0, 0, 0, .null, []) := rfl
set_option maxRecDepth 20000 in theorem iGraphDeltasModel_readOperation_116 : ai_find (ai_tab mGraphDeltasModel_readOperation) 116 = some (.iconst 3, 117, 0, 0, 0, .int (nI 3), []) := rfl
set_option maxRecDepth 20000 in theorem iGraphDeltasModel_readOperation_117 : ai_find (ai_tab mGraphDeltasModel_readOperation) 117 = some (.iload_n 1, 118, 1, 0, 0, .null, []) := rfl
set_option maxRecDepth 20000 in theorem iGraphDeltasModel_readOperation_118 : ai_find (ai_tab mGraphDeltasModel_readOperation) 118 = some (.iload_n 2, 119, 2, 0, 0, .null, []) := rfl
set_option maxRecDepth 20000 in theorem iGraphDeltasModel_readOperation_119 : ai_find (ai_tab mGraphDeltasModel_readOperation) 119 = some (.iload_n 3, 120, 3, 0, 0, .null, []) := rfl
set_option maxRecDepth 20000 in theorem iGraphDeltasModel_readOperation_120 : ai_find (ai_tab mGraphDeltasModel_readOperation) 120 = some (.iload 4, 122, 4, 0, 0, .null, []) := rfl
set_option maxRecDepth 20000 in theorem iGraphDeltasModel_readOperation_122 : ai_find (ai_tab mGraphDeltasModel_readOperation) 122 = some (.iload 5, 124, 5, 0, 0, .null, []) := rfl
set_option maxRecDepth 20000 in theorem iGraphDeltasModel_readOperation_124 : ai_find (ai_tab mGraphDeltasModel_readOperation) 124 = some (.i2l, 125, 0, 0, 0, .null, []) := rfl
set_option maxRecDepth 20000 in theorem iGraphDeltasModel_readOperation_125 : ai_find (ai_tab mGraphDeltasModel_readOperation) 125 = some (.invokevirtual 116, 128, 119, 7, 1, .ref 7, []) := rfl
set_option maxRecDepth 20000 in theorem iGraphDeltasModel_readOperation_128 : ai_find (ai_tab mGraphDeltasModel_readOperation) 128 = some (.iconst 0, 129, 0, 0, 0, .int (nI 0), []) := rfl
set_option maxRecDepth 20000 in theorem iGraphDeltasModel_readOperation_129 : ai_find (ai_tab mGraphDeltasModel_readOperation) 129 = some (.istore 6, 131, 6, 0, 0, .null, []) := rfl
set_option maxRecDepth 20000 in theorem iGraphDeltasModel_readOperation_131 : ai_find (ai_tab mGraphDeltasModel_readOperation) 131 = some (.iload 6, 133, 6, 0, 0, .null, []) := rfl
set_option maxRecDepth 20000 in theorem iGraphDeltasModel_readOperation_133 : ai_find (ai_tab mGraphDeltasModel_readOperation) 133 = some (.iload 5, 135, 5, 0, 0, .null, []) := rfl
set_option maxRecDepth 20000 in theorem iGraphDeltasModel_readOperation_135 : ai_find (ai_tab mGraphDeltasModel_readOperation) 135 = some (.if_icmp .ge 29, 138, 164, 0, 0, .null, []) := rfl
set_option maxRecDepth 20000 in theorem iGraphDeltasModel_readOperation_138 : ai_find (ai_tab mGraphDeltasModel_readOperation) 138 = some (.aload_n 0, 139, 0, 0, 0, .null, []) := rfl
set_option maxRecDepth 20000 in theorem iGraphDeltasModel_readOperation_139 : ai_find (ai_tab mGraphDeltasModel_readOperation) 139 = some (.getfield 216, 142, 7, 23, 0, .null, []) := rfl
set_option maxRecDepth 20000 in theorem iGraphDeltasModel_readOperation_142 : ai_find (ai_tab mGraphDeltasModel_readOperation) 142 = some (.ifCond .eq 22, 145, 164, 0, 0, .null, []) := rfl
set_option maxRecDepth 20000 in theorem iGraphDeltasModel_readOperation_145 : ai_find (ai_tab mGraphDeltasModel_readOperation) 145 = some (.aload_n 0, 146, 0, 0, 0, .null, []) := rfl
set_option maxRecDepth 20000 in theorem iGraphDeltasModel_readOperation_146 : ai_find (ai_tab mGraphDeltasModel_readOperation) 146 = some (.invokevirtual 226, 149, 154, 1, 1, .ref 7, []) := rfl
set_option maxRecDepth 20000 in theorem iGraphDeltasModel_readOperation_149 : ai_find (ai_tab mGraphDeltasModel_readOperation) 149 = some (.istore 7, 151, 7, 0, 0, .null, []) := rfl
set_option maxRecDepth 20000 in theorem iGraphDeltasModel_readOperation_151 : ai_find (ai_tab mGraphDeltasModel_readOperation) 151 = some (.aload_n 0, 152, 0, 0, 0, .null, []) := rfl
set_option maxRecDepth 20000 in theorem iGraphDeltasModel_readOperation_152 : ai_find (ai_tab mGraphDeltasModel_readOperation) 152 = some (.iconst 3, 153, 0, 0, 0, .int (nI 3), []) := rfl
set_option maxRecDepth 20000 in theorem iGraphDeltasModel_readOperation_153 : ai_find (ai_tab mGraphDeltasModel_readOperation) 153 = some (.iload 7, 155, 7, 0, 0, .null, []) := rfl
set_option maxRecDepth 20000 in theorem iGraphDeltasModel_readOperation_155 : ai_find (ai_tab mGraphDeltasModel_readOperation) 155 = some (.invokevirtual 120, 158, 120, 3, 1, .ref 7, []) := rfl
set_option maxRecDepth 20000 in theorem iGraphDeltasModel_readOperation_158 : ai_find (ai_tab mGraphDeltasModel_readOperation) 158 = some (.iinc 6 1, 161, 6, 0, 0, .int (nI 1), []) := rfl
set_option maxRecDepth 20000 in theorem iGraphDeltasModel_readOperation_161 : ai_find (ai_tab mGraphDeltasModel_readOperation) 161 = some (.goto (-30), 164, 131, 0, 0, .null, []) := rfl
set_option maxRecDepth 20000 in theorem iGraphDeltasModel_readOperation_164 : ai_find (ai_tab mGraphDeltasModel_readOperation) 164 = some (.return_, 165, 0, 0, 0, .null, []) := rfl
theorem iGraphDeltasModel_rebuild_0 : ai_find (ai_tab mGraphDeltasModel_rebuild) 0 = some (.iconst 0, 1, 0, 0, 0, .int (nI 0), []) := rfl
theorem iGraphDeltasModel_rebuild_1 : ai_find (ai_tab mGraphDeltasModel_rebuild) 1 = some (.istore_n 3, 2, 3, 0, 0, .null, []) := rfl
theorem iGraphDeltasModel_rebuild_2 : ai_find (ai_tab mGraphDeltasModel_rebuild) 2 = some (.aload_n 0, 3, 0, 0, 0, .null, []) := rfl
theorem iGraphDeltasModel_rebuild_3 : ai_find (ai_tab mGraphDeltasModel_rebuild) 3 = some (.iload_n 1, 4, 1, 0, 0, .null, []) := rfl
theorem iGraphDeltasModel_rebuild_4 : ai_find (ai_tab mGraphDeltasModel_rebuild) 4 = some (.iload_n 2, 5, 2, 0, 0, .null, []) := rfl
theorem iGraphDeltasModel_rebuild_5 : ai_find (ai_tab mGraphDeltasModel_rebuild) 5 = some (.invokevirtual 105, 8, 146, 3, 1, .ref 7, []) := rfl
theorem iGraphDeltasModel_rebuild_8 : ai_find (ai_tab mGraphDeltasModel_rebuild) 8 = some (.istore 4, 10, 4, 0, 0, .null, []) := rfl
theorem iGraphDeltasModel_rebuild_10 : ai_find (ai_tab mGraphDeltasModel_rebuild) 10 = some (.iconst 0, 11, 0, 0, 0, .int (nI 0), []) := rfl
theorem iGraphDeltasModel_rebuild_11 : ai_find (ai_tab mGraphDeltasModel_rebuild) 11 = some (.istore 5, 13, 5, 0, 0, .null, []) := rfl
theorem iGraphDeltasModel_rebuild_13 : ai_find (ai_tab mGraphDeltasModel_rebuild) 13 = some (.iconst 0, 14, 0, 0, 0, .int (nI 0), []) := rfl
theorem iGraphDeltasModel_rebuild_14 : ai_find (ai_tab mGraphDeltasModel_rebuild) 14 = some (.istore 6, 16, 6, 0, 0, .null, []) := rfl
theorem iGraphDeltasModel_rebuild_16 : ai_find (ai_tab mGraphDeltasModel_rebuild) 16 = some (.iload 6, 18, 6, 0, 0, .null, []) := rfl
theorem iGraphDeltasModel_rebuild_18 : ai_find (ai_tab mGraphDeltasModel_rebuild) 18 = some (.iload 4, 20, 4, 0, 0, .null, []) := rfl
theorem iGraphDeltasModel_rebuild_20 : ai_find (ai_tab mGraphDeltasModel_rebuild) 20 = some (.if_icmp .gt 161, 23, 181, 0, 0, .null, []) := rfl
theorem iGraphDeltasModel_rebuild_23 : ai_find (ai_tab mGraphDeltasModel_rebuild) 23 = some (.aload_n 0, 24, 0, 0, 0, .null, []) := rfl
theorem iGraphDeltasModel_rebuild_24 : ai_find (ai_tab mGraphDeltasModel_rebuild) 24 = some (.iload_n 2, 25, 2, 0, 0, .null, []) := rfl
theorem iGraphDeltasModel_rebuild_25 : ai_find (ai_tab mGraphDeltasModel_rebuild) 25 = some (.iload 6, 27, 6, 0, 0, .null, []) := rfl
theorem iGraphDeltasModel_rebuild_27 : ai_find (ai_tab mGraphDeltasModel_rebuild) 27 = some (.invokevirtual 182, 30, 172, 3, 1, .ref 7, []) := rfl
theorem iGraphDeltasModel_rebuild_30 : ai_find (ai_tab mGraphDeltasModel_rebuild) 30 = some (.istore 7, 32, 7, 0, 0, .null, []) := rfl
theorem iGraphDeltasModel_rebuild_32 : ai_find (ai_tab mGraphDeltasModel_rebuild) 32 = some (.iconst 0, 33, 0, 0, 0, .int (nI 0), []) := rfl
theorem iGraphDeltasModel_rebuild_33 : ai_find (ai_tab mGraphDeltasModel_rebuild) 33 = some (.istore 8, 35, 8, 0, 0, .null, []) := rfl
theorem iGraphDeltasModel_rebuild_35 : ai_find (ai_tab mGraphDeltasModel_rebuild) 35 = some (.iload 7, 37, 7, 0, 0, .null, []) := rfl
theorem iGraphDeltasModel_rebuild_37 : ai_find (ai_tab mGraphDeltasModel_rebuild) 37 = some (.ifCond .lt 57, 40, 94, 0, 0, .null, []) := rfl
theorem iGraphDeltasModel_rebuild_40 : ai_find (ai_tab mGraphDeltasModel_rebuild) 40 = some (.iload 8, 42, 8, 0, 0, .null, []) := rfl
theorem iGraphDeltasModel_rebuild_42 : ai_find (ai_tab mGraphDeltasModel_rebuild) 42 = some (.i2l, 43, 0, 0, 0, .null, []) := rfl
theorem iGraphDeltasModel_rebuild_43 : ai_find (ai_tab mGraphDeltasModel_rebuild) 43 = some (.aload_n 0, 44, 0, 0, 0, .null, []) := rfl
theorem iGraphDeltasModel_rebuild_44 : ai_find (ai_tab mGraphDeltasModel_rebuild) 44 = some (.getfield 46, 47, 7, 12, 0, .null, []) := rfl
theorem iGraphDeltasModel_rebuild_47 : ai_find (ai_tab mGraphDeltasModel_rebuild) 47 = some (.iload 7, 49, 7, 0, 0, .null, []) := rfl
theorem iGraphDeltasModel_rebuild_49 : ai_find (ai_tab mGraphDeltasModel_rebuild) 49 = some (.laload, 50, 0, 0, 0, .null, []) := rfl
theorem iGraphDeltasModel_rebuild_50 : ai_find (ai_tab mGraphDeltasModel_rebuild) 50 = some (.lcmp, 51, 0, 0, 0, .null, []) := rfl
theorem iGraphDeltasModel_rebuild_51 : ai_find (ai_tab mGraphDeltasModel_rebuild) 51 = some (.ifCond .ge 43, 54, 94, 0, 0, .null, []) := rfl
theorem iGraphDeltasModel_rebuild_54 : ai_find (ai_tab mGraphDeltasModel_rebuild) 54 = some (.aload_n 0, 55, 0, 0, 0, .null, []) := rfl
theorem iGraphDeltasModel_rebuild_55 : ai_find (ai_tab mGraphDeltasModel_rebuild) 55 = some (.getfield 24, 58, 7, 5, 0, .null, []) := rfl
theorem iGraphDeltasModel_rebuild_58 : ai_find (ai_tab mGraphDeltasModel_rebuild) 58 = some (.sipush 864, 61, 0, 0, 0, .int (nI 864), []) := rfl
theorem iGraphDeltasModel_rebuild_61 : ai_find (ai_tab mGraphDeltasModel_rebuild) 61 = some (.bipush 6, 63, 0, 0, 0, .int (nI 6), []) := rfl
theorem iGraphDeltasModel_rebuild_63 : ai_find (ai_tab mGraphDeltasModel_rebuild) 63 = some (.iload_n 2, 64, 2, 0, 0, .null, []) := rfl
theorem iGraphDeltasModel_rebuild_64 : ai_find (ai_tab mGraphDeltasModel_rebuild) 64 = some (.imul, 65, 0, 0, 0, .null, []) := rfl
theorem iGraphDeltasModel_rebuild_65 : ai_find (ai_tab mGraphDeltasModel_rebuild) 65 = some (.iadd, 66, 0, 0, 0, .null, []) := rfl
theorem iGraphDeltasModel_rebuild_66 : ai_find (ai_tab mGraphDeltasModel_rebuild) 66 = some (.iload_n 3, 67, 3, 0, 0, .null, []) := rfl
theorem iGraphDeltasModel_rebuild_67 : ai_find (ai_tab mGraphDeltasModel_rebuild) 67 = some (.iadd, 68, 0, 0, 0, .null, []) := rfl
theorem iGraphDeltasModel_rebuild_68 : ai_find (ai_tab mGraphDeltasModel_rebuild) 68 = some (.aload_n 0, 69, 0, 0, 0, .null, []) := rfl
theorem iGraphDeltasModel_rebuild_69 : ai_find (ai_tab mGraphDeltasModel_rebuild) 69 = some (.getfield 55, 72, 7, 15, 0, .null, []) := rfl
theorem iGraphDeltasModel_rebuild_72 : ai_find (ai_tab mGraphDeltasModel_rebuild) 72 = some (.aload_n 0, 73, 0, 0, 0, .null, []) := rfl
theorem iGraphDeltasModel_rebuild_73 : ai_find (ai_tab mGraphDeltasModel_rebuild) 73 = some (.getfield 49, 76, 7, 13, 0, .null, []) := rfl
theorem iGraphDeltasModel_rebuild_76 : ai_find (ai_tab mGraphDeltasModel_rebuild) 76 = some (.iload 7, 78, 7, 0, 0, .null, []) := rfl
theorem iGraphDeltasModel_rebuild_78 : ai_find (ai_tab mGraphDeltasModel_rebuild) 78 = some (.iaload, 79, 0, 0, 0, .null, []) := rfl
theorem iGraphDeltasModel_rebuild_79 : ai_find (ai_tab mGraphDeltasModel_rebuild) 79 = some (.iload 8, 81, 8, 0, 0, .null, []) := rfl
theorem iGraphDeltasModel_rebuild_81 : ai_find (ai_tab mGraphDeltasModel_rebuild) 81 = some (.iadd, 82, 0, 0, 0, .null, []) := rfl
theorem iGraphDeltasModel_rebuild_82 : ai_find (ai_tab mGraphDeltasModel_rebuild) 82 = some (.iaload, 83, 0, 0, 0, .null, []) := rfl
theorem iGraphDeltasModel_rebuild_83 : ai_find (ai_tab mGraphDeltasModel_rebuild) 83 = some (.i2l, 84, 0, 0, 0, .null, []) := rfl
theorem iGraphDeltasModel_rebuild_84 : ai_find (ai_tab mGraphDeltasModel_rebuild) 84 = some (.lastore, 85, 0, 0, 0, .null, []) := rfl
theorem iGraphDeltasModel_rebuild_85 : ai_find (ai_tab mGraphDeltasModel_rebuild) 85 = some (.iinc 3 1, 88, 3, 0, 0, .int (nI 1), []) := rfl
theorem iGraphDeltasModel_rebuild_88 : ai_find (ai_tab mGraphDeltasModel_rebuild) 88 = some (.iinc 8 1, 91, 8, 0, 0, .int (nI 1), []) := rfl
theorem iGraphDeltasModel_rebuild_91 : ai_find (ai_tab mGraphDeltasModel_rebuild) 91 = some (.goto (-56), 94, 35, 0, 0, .null, []) := rfl
theorem iGraphDeltasModel_rebuild_94 : ai_find (ai_tab mGraphDeltasModel_rebuild) 94 = some (.iload 7, 96, 7, 0, 0, .null, []) := rfl
theorem iGraphDeltasModel_rebuild_96 : ai_find (ai_tab mGraphDeltasModel_rebuild) 96 = some (.ifCond .lt 13, 99, 109, 0, 0, .null, []) := rfl
theorem iGraphDeltasModel_rebuild_99 : ai_find (ai_tab mGraphDeltasModel_rebuild) 99 = some (.aload_n 0, 100, 0, 0, 0, .null, []) := rfl
theorem iGraphDeltasModel_rebuild_100 : ai_find (ai_tab mGraphDeltasModel_rebuild) 100 = some (.getfield 43, 103, 7, 11, 0, .null, []) := rfl
theorem iGraphDeltasModel_rebuild_103 : ai_find (ai_tab mGraphDeltasModel_rebuild) 103 = some (.iload 7, 105, 7, 0, 0, .null, []) := rfl
theorem iGraphDeltasModel_rebuild_105 : ai_find (ai_tab mGraphDeltasModel_rebuild) 105 = some (.iaload, 106, 0, 0, 0, .null, []) := rfl
theorem iGraphDeltasModel_rebuild_106 : ai_find (ai_tab mGraphDeltasModel_rebuild) 106 = some (.goto 5, 109, 111, 0, 0, .null, []) := rfl
set_option maxRecDepth 20000 in theorem iGraphDeltasModel_rebuild_109 : ai_find (ai_tab mGraphDeltasModel_rebuild) 109 = some (.iload 5, 111, 5, 0, 0, .null, []) := rfl
set_option maxRecDepth 20000 in theorem iGraphDeltasModel_rebuild_111 : ai_find (ai_tab mGraphDeltasModel_rebuild) 111 = some (.istore 5, 113, 5, 0, 0, .null, []) := rfl
set_option maxRecDepth 20000 in theorem iGraphDeltasModel_rebuild_113 : ai_find (ai_tab mGraphDeltasModel_rebuild) 113 = some (.iload 6, 115, 6, 0, 0, .null, []) := rfl
set_option maxRecDepth 20000 in theorem iGraphDeltasModel_rebuild_115 : ai_find (ai_tab mGraphDeltasModel_rebuild) 115 = some (.iload 4, 117, 4, 0, 0, .null, []) := rfl
set_option maxRecDepth 20000 in theorem iGraphDeltasModel_rebuild_117 : ai_find (ai_tab mGraphDeltasModel_rebuild) 117 = some (.if_icmp .ge 43, 120, 160, 0, 0, .null, []) := rfl
set_option maxRecDepth 20000 in theorem iGraphDeltasModel_rebuild_120 : ai_find (ai_tab mGraphDeltasModel_rebuild) 120 = some (.iload 5, 122, 5, 0, 0, .null, []) := rfl
set_option maxRecDepth 20000 in theorem iGraphDeltasModel_rebuild_122 : ai_find (ai_tab mGraphDeltasModel_rebuild) 122 = some (.ifCond .ne 38, 125, 160, 0, 0, .null, []) := rfl
set_option maxRecDepth 20000 in theorem iGraphDeltasModel_rebuild_125 : ai_find (ai_tab mGraphDeltasModel_rebuild) 125 = some (.aload_n 0, 126, 0, 0, 0, .null, []) := rfl
set_option maxRecDepth 20000 in theorem iGraphDeltasModel_rebuild_126 : ai_find (ai_tab mGraphDeltasModel_rebuild) 126 = some (.getfield 24, 129, 7, 5, 0, .null, []) := rfl
set_option maxRecDepth 20000 in theorem iGraphDeltasModel_rebuild_129 : ai_find (ai_tab mGraphDeltasModel_rebuild) 129 = some (.sipush 864, 132, 0, 0, 0, .int (nI 864), []) := rfl
set_option maxRecDepth 20000 in theorem iGraphDeltasModel_rebuild_132 : ai_find (ai_tab mGraphDeltasModel_rebuild) 132 = some (.bipush 6, 134, 0, 0, 0, .int (nI 6), []) := rfl
set_option maxRecDepth 20000 in theorem iGraphDeltasModel_rebuild_134 : ai_find (ai_tab mGraphDeltasModel_rebuild) 134 = some (.iload_n 2, 135, 2, 0, 0, .null, []) := rfl
set_option maxRecDepth 20000 in theorem iGraphDeltasModel_rebuild_135 : ai_find (ai_tab mGraphDeltasModel_rebuild) 135 = some (.imul, 136, 0, 0, 0, .null, []) := rfl
set_option maxRecDepth 20000 in theorem iGraphDeltasModel_rebuild_136 : ai_find (ai_tab mGraphDeltasModel_rebuild) 136 = some (.iadd, 137, 0, 0, 0, .null, []) := rfl
set_option maxRecDepth 20000 in theorem iGraphDeltasModel_rebuild_137 : ai_find (ai_tab mGraphDeltasModel_rebuild) 137 = some (.iload_n 3, 138, 3, 0, 0, .null, []) := rfl
set_option maxRecDepth 20000 in theorem iGraphDeltasModel_rebuild_138 : ai_find (ai_tab mGraphDeltasModel_rebuild) 138 = some (.iadd, 139, 0, 0, 0, .null, []) := rfl
set_option maxRecDepth 20000 in theorem iGraphDeltasModel_rebuild_139 : ai_find (ai_tab mGraphDeltasModel_rebuild) 139 = some (.aload_n 0, 140, 0, 0, 0, .null, []) := rfl
set_option maxRecDepth 20000 in theorem iGraphDeltasModel_rebuild_140 : ai_find (ai_tab mGraphDeltasModel_rebuild) 140 = some (.getfield 24, 143, 7, 5, 0, .null, []) := rfl
set_option maxRecDepth 20000 in theorem iGraphDeltasModel_rebuild_143 : ai_find (ai_tab mGraphDeltasModel_rebuild) 143 = some (.bipush 96, 145, 0, 0, 0, .int (nI 96), []) := rfl
set_option maxRecDepth 20000 in theorem iGraphDeltasModel_rebuild_145 : ai_find (ai_tab mGraphDeltasModel_rebuild) 145 = some (.iload_n 1, 146, 1, 0, 0, .null, []) := rfl
set_option maxRecDepth 20000 in theorem iGraphDeltasModel_rebuild_146 : ai_find (ai_tab mGraphDeltasModel_rebuild) 146 = some (.imul, 147, 0, 0, 0, .null, []) := rfl
set_option maxRecDepth 20000 in theorem iGraphDeltasModel_rebuild_147 : ai_find (ai_tab mGraphDeltasModel_rebuild) 147 = some (.bipush 6, 149, 0, 0, 0, .int (nI 6), []) := rfl
set_option maxRecDepth 20000 in theorem iGraphDeltasModel_rebuild_149 : ai_find (ai_tab mGraphDeltasModel_rebuild) 149 = some (.iload_n 2, 150, 2, 0, 0, .null, []) := rfl
set_option maxRecDepth 20000 in theorem iGraphDeltasModel_rebuild_150 : ai_find (ai_tab mGraphDeltasModel_rebuild) 150 = some (.imul, 151, 0, 0, 0, .null, []) := rfl
set_option maxRecDepth 20000 in theorem iGraphDeltasModel_rebuild_151 : ai_find (ai_tab mGraphDeltasModel_rebuild) 151 = some (.iadd, 152, 0, 0, 0, .null, []) := rfl
set_option maxRecDepth 20000 in theorem iGraphDeltasModel_rebuild_152 : ai_find (ai_tab mGraphDeltasModel_rebuild) 152 = some (.iload 6, 154, 6, 0, 0, .null, []) := rfl
set_option maxRecDepth 20000 in theorem iGraphDeltasModel_rebuild_154 : ai_find (ai_tab mGraphDeltasModel_rebuild) 154 = some (.iadd, 155, 0, 0, 0, .null, []) := rfl
set_option maxRecDepth 20000 in theorem iGraphDeltasModel_rebuild_155 : ai_find (ai_tab mGraphDeltasModel_rebuild) 155 = some (.laload, 156, 0, 0, 0, .null, []) := rfl
set_option maxRecDepth 20000 in theorem iGraphDeltasModel_rebuild_156 : ai_find (ai_tab mGraphDeltasModel_rebuild) 156 = some (.lastore, 157, 0, 0, 0, .null, []) := rfl
set_option maxRecDepth 20000 in theorem iGraphDeltasModel_rebuild_157 : ai_find (ai_tab mGraphDeltasModel_rebuild) 157 = some (.iinc 3 1, 160, 3, 0, 0, .int (nI 1), []) := rfl
set_option maxRecDepth 20000 in theorem iGraphDeltasModel_rebuild_160 : ai_find (ai_tab mGraphDeltasModel_rebuild) 160 = some (.iload 5, 162, 5, 0, 0, .null, []) := rfl
set_option maxRecDepth 20000 in theorem iGraphDeltasModel_rebuild_162 : ai_find (ai_tab mGraphDeltasModel_rebuild) 162 = some (.ifCond .le 10, 165, 172, 0, 0, .null, []) := rfl
set_option maxRecDepth 20000 in theorem iGraphDeltasModel_rebuild_165 : ai_find (ai_tab mGraphDeltasModel_rebuild) 165 = some (.iload 5, 167, 5, 0, 0, .null, []) := rfl
set_option maxRecDepth 20000 in theorem iGraphDeltasModel_rebuild_167 : ai_find (ai_tab mGraphDeltasModel_rebuild) 167 = some (.iconst 1, 168, 0, 0, 0, .int (nI 1), []) := rfl
set_option maxRecDepth 20000 in theorem iGraphDeltasModel_rebuild_168 : ai_find (ai_tab mGraphDeltasModel_rebuild) 168 = some (.isub, 169, 0, 0, 0, .null, []) := rfl
set_option maxRecDepth 20000 in theorem iGraphDeltasModel_rebuild_169 : ai_find (ai_tab mGraphDeltasModel_rebuild) 169 = some (.goto 4, 172, 173, 0, 0, .null, []) := rfl
set_option maxRecDepth 20000 in theorem iGraphDeltasModel_rebuild_172 : ai_find (ai_tab mGraphDeltasModel_rebuild) 172 = some (.iconst 0, 173, 0, 0, 0, .int (nI 0), []) := rfl
set_option maxRecDepth 20000 in theorem iGraphDeltasModel_rebuild_173 : ai_find (ai_tab mGraphDeltasModel_rebuild) 173 = some (.istore 5, 175, 5, 0, 0, .null, []) := rfl
set_option maxRecDepth 20000 in theorem iGraphDeltasModel_rebuild_175 : ai_find (ai_tab mGraphDeltasModel_rebuild) 175 = some (.iinc 6 1, 178, 6, 0, 0, .int (nI 1), []) := rfl
set_option maxRecDepth 20000 in theorem iGraphDeltasModel_rebuild_178 : ai_find (ai_tab mGraphDeltasModel_rebuild) 178 = some (.goto (-162), 181, 16, 0, 0, .null, []) := rfl
set_option maxRecDepth 20000 in theorem iGraphDeltasModel_rebuild_181 : ai_find (ai_tab mGraphDeltasModel_rebuild) 181 = some (.aload_n 0, 182, 0, 0, 0, .null, []) := rfl
set_option maxRecDepth 20000 in theorem iGraphDeltasModel_rebuild_182 : ai_find (ai_tab mGraphDeltasModel_rebuild) 182 = some (.getfield 20, 185, 7, 4, 0, .null, []) := rfl
set_option maxRecDepth 20000 in theorem iGraphDeltasModel_rebuild_185 : ai_find (ai_tab mGraphDeltasModel_rebuild) 185 = some (.sipush 144, 188, 0, 0, 0, .int (nI 144), []) := rfl
set_option maxRecDepth 20000 in theorem iGraphDeltasModel_rebuild_188 : ai_find (ai_tab mGraphDeltasModel_rebuild) 188 = some (.iload_n 2, 189, 2, 0, 0, .null, []) := rfl
set_option maxRecDepth 20000 in theorem iGraphDeltasModel_rebuild_189 : ai_find (ai_tab mGraphDeltasModel_rebuild) 189 = some (.iadd, 190, 0, 0, 0, .null, []) := rfl
set_option maxRecDepth 20000 in theorem iGraphDeltasModel_rebuild_190 : ai_find (ai_tab mGraphDeltasModel_rebuild) 190 = some (.iload_n 3, 191, 3, 0, 0, .null, []) := rfl
set_option maxRecDepth 20000 in theorem iGraphDeltasModel_rebuild_191 : ai_find (ai_tab mGraphDeltasModel_rebuild) 191 = some (.iastore, 192, 0, 0, 0, .null, []) := rfl
set_option maxRecDepth 20000 in theorem iGraphDeltasModel_rebuild_192 : ai_find (ai_tab mGraphDeltasModel_rebuild) 192 = some (.return_, 193, 0, 0, 0, .null, []) := rfl
theorem iGraphDeltasModel_remove_0 : ai_find (ai_tab mGraphDeltasModel_remove) 0 = some (.aload_n 0, 1, 0, 0, 0, .null, []) := rfl
theorem iGraphDeltasModel_remove_1 : ai_find (ai_tab mGraphDeltasModel_remove) 1 = some (.iload_n 1, 2, 1, 0, 0, .null, []) := rfl
theorem iGraphDeltasModel_remove_2 : ai_find (ai_tab mGraphDeltasModel_remove) 2 = some (.invokevirtual 77, 5, 151, 2, 1, .ref 7, []) := rfl
theorem iGraphDeltasModel_remove_5 : ai_find (ai_tab mGraphDeltasModel_remove) 5 = some (.ifCond .eq 26, 8, 31, 0, 0, .null, []) := rfl
theorem iGraphDeltasModel_remove_8 : ai_find (ai_tab mGraphDeltasModel_remove) 8 = some (.aload_n 0, 9, 0, 0, 0, .null, []) := rfl
theorem iGraphDeltasModel_remove_9 : ai_find (ai_tab mGraphDeltasModel_remove) 9 = some (.getfield 13, 12, 7, 1, 0, .null, []) := rfl
theorem iGraphDeltasModel_remove_12 : ai_find (ai_tab mGraphDeltasModel_remove) 12 = some (.iload_n 1, 13, 1, 0, 0, .null, []) := rfl
theorem iGraphDeltasModel_remove_13 : ai_find (ai_tab mGraphDeltasModel_remove) 13 = some (.baload, 14, 0, 0, 0, .null, []) := rfl
theorem iGraphDeltasModel_remove_14 : ai_find (ai_tab mGraphDeltasModel_remove) 14 = some (.ifCond .eq 17, 17, 31, 0, 0, .null, []) := rfl
theorem iGraphDeltasModel_remove_17 : ai_find (ai_tab mGraphDeltasModel_remove) 17 = some (.iload_n 2, 18, 2, 0, 0, .null, []) := rfl
theorem iGraphDeltasModel_remove_18 : ai_find (ai_tab mGraphDeltasModel_remove) 18 = some (.ifCond .lt 13, 21, 31, 0, 0, .null, []) := rfl
theorem iGraphDeltasModel_remove_21 : ai_find (ai_tab mGraphDeltasModel_remove) 21 = some (.iload_n 2, 22, 2, 0, 0, .null, []) := rfl
theorem iGraphDeltasModel_remove_22 : ai_find (ai_tab mGraphDeltasModel_remove) 22 = some (.aload_n 0, 23, 0, 0, 0, .null, []) := rfl
theorem iGraphDeltasModel_remove_23 : ai_find (ai_tab mGraphDeltasModel_remove) 23 = some (.getfield 20, 26, 7, 4, 0, .null, []) := rfl
theorem iGraphDeltasModel_remove_26 : ai_find (ai_tab mGraphDeltasModel_remove) 26 = some (.iload_n 1, 27, 1, 0, 0, .null, []) := rfl
theorem iGraphDeltasModel_remove_27 : ai_find (ai_tab mGraphDeltasModel_remove) 27 = some (.iaload, 28, 0, 0, 0, .null, []) := rfl
theorem iGraphDeltasModel_remove_28 : ai_find (ai_tab mGraphDeltasModel_remove) 28 = some (.if_icmp .lt 5, 31, 33, 0, 0, .null, []) := rfl
theorem iGraphDeltasModel_remove_31 : ai_find (ai_tab mGraphDeltasModel_remove) 31 = some (.iconst 0, 32, 0, 0, 0, .int (nI 0), []) := rfl
theorem iGraphDeltasModel_remove_32 : ai_find (ai_tab mGraphDeltasModel_remove) 32 = some (.ireturn, 33, 1, 0, 0, .null, []) := rfl
theorem iGraphDeltasModel_remove_33 : ai_find (ai_tab mGraphDeltasModel_remove) 33 = some (.aload_n 0, 34, 0, 0, 0, .null, []) := rfl
theorem iGraphDeltasModel_remove_34 : ai_find (ai_tab mGraphDeltasModel_remove) 34 = some (.getfield 20, 37, 7, 4, 0, .null, []) := rfl
theorem iGraphDeltasModel_remove_37 : ai_find (ai_tab mGraphDeltasModel_remove) 37 = some (.iload_n 1, 38, 1, 0, 0, .null, []) := rfl
theorem iGraphDeltasModel_remove_38 : ai_find (ai_tab mGraphDeltasModel_remove) 38 = some (.dup2, 39, 0, 0, 0, .null, []) := rfl
theorem iGraphDeltasModel_remove_39 : ai_find (ai_tab mGraphDeltasModel_remove) 39 = some (.iaload, 40, 0, 0, 0, .null, []) := rfl
theorem iGraphDeltasModel_remove_40 : ai_find (ai_tab mGraphDeltasModel_remove) 40 = some (.iconst 1, 41, 0, 0, 0, .int (nI 1), []) := rfl
theorem iGraphDeltasModel_remove_41 : ai_find (ai_tab mGraphDeltasModel_remove) 41 = some (.isub, 42, 0, 0, 0, .null, []) := rfl
theorem iGraphDeltasModel_remove_42 : ai_find (ai_tab mGraphDeltasModel_remove) 42 = some (.iastore, 43, 0, 0, 0, .null, []) := rfl
theorem iGraphDeltasModel_remove_43 : ai_find (ai_tab mGraphDeltasModel_remove) 43 = some (.iload_n 2, 44, 2, 0, 0, .null, []) := rfl
theorem iGraphDeltasModel_remove_44 : ai_find (ai_tab mGraphDeltasModel_remove) 44 = some (.istore_n 3, 45, 3, 0, 0, .null, []) := rfl
theorem iGraphDeltasModel_remove_45 : ai_find (ai_tab mGraphDeltasModel_remove) 45 = some (.iload_n 3, 46, 3, 0, 0, .null, []) := rfl
theorem iGraphDeltasModel_remove_46 : ai_find (ai_tab mGraphDeltasModel_remove) 46 = some (.aload_n 0, 47, 0, 0, 0, .null, []) := rfl
theorem iGraphDeltasModel_remove_47 : ai_find (ai_tab mGraphDeltasModel_remove) 47 = some (.getfield 20, 50, 7, 4, 0, .null, []) := rfl
theorem iGraphDeltasModel_remove_50 : ai_find (ai_tab mGraphDeltasModel_remove) 50 = some (.iload_n 1, 51, 1, 0, 0, .null, []) := rfl
theorem iGraphDeltasModel_remove_51 : ai_find (ai_tab mGraphDeltasModel_remove) 51 = some (.iaload, 52, 0, 0, 0, .null, []) := rfl
theorem iGraphDeltasModel_remove_52 : ai_find (ai_tab mGraphDeltasModel_remove) 52 = some (.if_icmp .ge 33, 55, 85, 0, 0, .null, []) := rfl
theorem iGraphDeltasModel_remove_55 : ai_find (ai_tab mGraphDeltasModel_remove) 55 = some (.aload_n 0, 56, 0, 0, 0, .null, []) := rfl
theorem iGraphDeltasModel_remove_56 : ai_find (ai_tab mGraphDeltasModel_remove) 56 = some (.getfield 24, 59, 7, 5, 0, .null, []) := rfl
theorem iGraphDeltasModel_remove_59 : ai_find (ai_tab mGraphDeltasModel_remove) 59 = some (.bipush 6, 61, 0, 0, 0, .int (nI 6), []) := rfl
theorem iGraphDeltasModel_remove_61 : ai_find (ai_tab mGraphDeltasModel_remove) 61 = some (.iload_n 1, 62, 1, 0, 0, .null, []) := rfl
theorem iGraphDeltasModel_remove_62 : ai_find (ai_tab mGraphDeltasModel_remove) 62 = some (.imul, 63, 0, 0, 0, .null, []) := rfl
theorem iGraphDeltasModel_remove_63 : ai_find (ai_tab mGraphDeltasModel_remove) 63 = some (.iload_n 3, 64, 3, 0, 0, .null, []) := rfl
theorem iGraphDeltasModel_remove_64 : ai_find (ai_tab mGraphDeltasModel_remove) 64 = some (.iadd, 65, 0, 0, 0, .null, []) := rfl
theorem iGraphDeltasModel_remove_65 : ai_find (ai_tab mGraphDeltasModel_remove) 65 = some (.aload_n 0, 66, 0, 0, 0, .null, []) := rfl
theorem iGraphDeltasModel_remove_66 : ai_find (ai_tab mGraphDeltasModel_remove) 66 = some (.getfield 24, 69, 7, 5, 0, .null, []) := rfl
theorem iGraphDeltasModel_remove_69 : ai_find (ai_tab mGraphDeltasModel_remove) 69 = some (.bipush 6, 71, 0, 0, 0, .int (nI 6), []) := rfl
theorem iGraphDeltasModel_remove_71 : ai_find (ai_tab mGraphDeltasModel_remove) 71 = some (.iload_n 1, 72, 1, 0, 0, .null, []) := rfl
theorem iGraphDeltasModel_remove_72 : ai_find (ai_tab mGraphDeltasModel_remove) 72 = some (.imul, 73, 0, 0, 0, .null, []) := rfl
theorem iGraphDeltasModel_remove_73 : ai_find (ai_tab mGraphDeltasModel_remove) 73 = some (.iload_n 3, 74, 3, 0, 0, .null, []) := rfl
theorem iGraphDeltasModel_remove_74 : ai_find (ai_tab mGraphDeltasModel_remove) 74 = some (.iadd, 75, 0, 0, 0, .null, []) := rfl
theorem iGraphDeltasModel_remove_75 : ai_find (ai_tab mGraphDeltasModel_remove) 75 = some (.iconst 1, 76, 0, 0, 0, .int (nI 1), []) := rfl
theorem iGraphDeltasModel_remove_76 : ai_find (ai_tab mGraphDeltasModel_remove) 76 = some (.iadd, 77, 0, 0, 0, .null, []) := rfl
theorem iGraphDeltasModel_remove_77 : ai_find (ai_tab mGraphDeltasModel_remove) 77 = some (.laload, 78, 0, 0, 0, .null, []) := rfl
theorem iGraphDeltasModel_remove_78 : ai_find (ai_tab mGraphDeltasModel_remove) 78 = some (.lastore, 79, 0, 0, 0, .null, []) := rfl
theorem iGraphDeltasModel_remove_79 : ai_find (ai_tab mGraphDeltasModel_remove) 79 = some (.iinc 3 1, 82, 3, 0, 0, .int (nI 1), []) := rfl
theorem iGraphDeltasModel_remove_82 : ai_find (ai_tab mGraphDeltasModel_remove) 82 = some (.goto (-37), 85, 45, 0, 0, .null, []) := rfl
theorem iGraphDeltasModel_remove_85 : ai_find (ai_tab mGraphDeltasModel_remove) 85 = some (.iconst 1, 86, 0, 0, 0, .int (nI 1), []) := rfl
theorem iGraphDeltasModel_remove_86 : ai_find (ai_tab mGraphDeltasModel_remove) 86 = some (.ireturn, 87, 1, 0, 0, .null, []) := rfl
theorem iGraphDeltasModel_restore_0 : ai_find (ai_tab mGraphDeltasModel_restore) 0 = some (.aload_n 0, 1, 0, 0, 0, .null, []) := rfl
theorem iGraphDeltasModel_restore_1 : ai_find (ai_tab mGraphDeltasModel_restore) 1 = some (.iload_n 1, 2, 1, 0, 0, .null, []) := rfl
theorem iGraphDeltasModel_restore_2 : ai_find (ai_tab mGraphDeltasModel_restore) 2 = some (.invokevirtual 98, 5, 145, 2, 1, .ref 7, []) := rfl
theorem iGraphDeltasModel_restore_5 : ai_find (ai_tab mGraphDeltasModel_restore) 5 = some (.ifCond .ne 5, 8, 10, 0, 0, .null, []) := rfl
theorem iGraphDeltasModel_restore_8 : ai_find (ai_tab mGraphDeltasModel_restore) 8 = some (.iconst 0, 9, 0, 0, 0, .int (nI 0), []) := rfl
theorem iGraphDeltasModel_restore_9 : ai_find (ai_tab mGraphDeltasModel_restore) 9 = some (.ireturn, 10, 1, 0, 0, .null, []) := rfl
theorem iGraphDeltasModel_restore_10 : ai_find (ai_tab mGraphDeltasModel_restore) 10 = some (.aload_n 0, 11, 0, 0, 0, .null, []) := rfl
theorem iGraphDeltasModel_restore_11 : ai_find (ai_tab mGraphDeltasModel_restore) 11 = some (.iload_n 1, 12, 1, 0, 0, .null, []) := rfl
theorem iGraphDeltasModel_restore_12 : ai_find (ai_tab mGraphDeltasModel_restore) 12 = some (.iconst 1, 13, 0, 0, 0, .int (nI 1), []) := rfl
theorem iGraphDeltasModel_restore_13 : ai_find (ai_tab mGraphDeltasModel_restore) 13 = some (.iadd, 14, 0, 0, 0, .null, []) := rfl
theorem iGraphDeltasModel_restore_14 : ai_find (ai_tab mGraphDeltasModel_restore) 14 = some (.iconst 0, 15, 0, 0, 0, .int (nI 0), []) := rfl
theorem iGraphDeltasModel_restore_15 : ai_find (ai_tab mGraphDeltasModel_restore) 15 = some (.invokevirtual 91, 18, 128, 3, 1, .ref 7, []) := rfl
theorem iGraphDeltasModel_restore_18 : ai_find (ai_tab mGraphDeltasModel_restore) 18 = some (.iconst 1, 19, 0, 0, 0, .int (nI 1), []) := rfl
theorem iGraphDeltasModel_restore_19 : ai_find (ai_tab mGraphDeltasModel_restore) 19 = some (.ireturn, 20, 1, 0, 0, .null, []) := rfl
theorem iGraphDeltasModel_same_0 : ai_find (ai_tab mGraphDeltasModel_same) 0 = some (.aload_n 0, 1, 0, 0, 0, .null, []) := rfl
theorem iGraphDeltasModel_same_1 : ai_find (ai_tab mGraphDeltasModel_same) 1 = some (.iload_n 1, 2, 1, 0, 0, .null, []) := rfl
theorem iGraphDeltasModel_same_2 : ai_find (ai_tab mGraphDeltasModel_same) 2 = some (.invokevirtual 98, 5, 145, 2, 1, .ref 7, []) := rfl
theorem iGraphDeltasModel_same_5 : ai_find (ai_tab mGraphDeltasModel_same) 5 = some (.ifCond .eq 11, 8, 16, 0, 0, .null, []) := rfl
theorem iGraphDeltasModel_same_8 : ai_find (ai_tab mGraphDeltasModel_same) 8 = some (.aload_n 0, 9, 0, 0, 0, .null, []) := rfl
theorem iGraphDeltasModel_same_9 : ai_find (ai_tab mGraphDeltasModel_same) 9 = some (.iload_n 2, 10, 2, 0, 0, .null, []) := rfl
theorem iGraphDeltasModel_same_10 : ai_find (ai_tab mGraphDeltasModel_same) 10 = some (.invokevirtual 98, 13, 145, 2, 1, .ref 7, []) := rfl
theorem iGraphDeltasModel_same_13 : ai_find (ai_tab mGraphDeltasModel_same) 13 = some (.ifCond .ne 5, 16, 18, 0, 0, .null, []) := rfl
theorem iGraphDeltasModel_same_16 : ai_find (ai_tab mGraphDeltasModel_same) 16 = some (.iconst 0, 17, 0, 0, 0, .int (nI 0), []) := rfl
theorem iGraphDeltasModel_same_17 : ai_find (ai_tab mGraphDeltasModel_same) 17 = some (.ireturn, 18, 1, 0, 0, .null, []) := rfl
theorem iGraphDeltasModel_same_18 : ai_find (ai_tab mGraphDeltasModel_same) 18 = some (.iconst 1, 19, 0, 0, 0, .int (nI 1), []) := rfl
theorem iGraphDeltasModel_same_19 : ai_find (ai_tab mGraphDeltasModel_same) 19 = some (.istore_n 3, 20, 3, 0, 0, .null, []) := rfl
theorem iGraphDeltasModel_same_20 : ai_find (ai_tab mGraphDeltasModel_same) 20 = some (.iconst 0, 21, 0, 0, 0, .int (nI 0), []) := rfl
theorem iGraphDeltasModel_same_21 : ai_find (ai_tab mGraphDeltasModel_same) 21 = some (.istore 4, 23, 4, 0, 0, .null, []) := rfl
theorem iGraphDeltasModel_same_23 : ai_find (ai_tab mGraphDeltasModel_same) 23 = some (.iload 4, 25, 4, 0, 0, .null, []) := rfl
theorem iGraphDeltasModel_same_25 : ai_find (ai_tab mGraphDeltasModel_same) 25 = some (.bipush 16, 27, 0, 0, 0, .int (nI 16), []) := rfl
theorem iGraphDeltasModel_same_27 : ai_find (ai_tab mGraphDeltasModel_same) 27 = some (.if_icmp .ge 167, 30, 194, 0, 0, .null, []) := rfl
theorem iGraphDeltasModel_same_30 : ai_find (ai_tab mGraphDeltasModel_same) 30 = some (.aload_n 0, 31, 0, 0, 0, .null, []) := rfl
theorem iGraphDeltasModel_same_31 : ai_find (ai_tab mGraphDeltasModel_same) 31 = some (.getfield 17, 34, 7, 3, 0, .null, []) := rfl
theorem iGraphDeltasModel_same_34 : ai_find (ai_tab mGraphDeltasModel_same) 34 = some (.bipush 16, 36, 0, 0, 0, .int (nI 16), []) := rfl
theorem iGraphDeltasModel_same_36 : ai_find (ai_tab mGraphDeltasModel_same) 36 = some (.iload_n 1, 37, 1, 0, 0, .null, []) := rfl
theorem iGraphDeltasModel_same_37 : ai_find (ai_tab mGraphDeltasModel_same) 37 = some (.imul, 38, 0, 0, 0, .null, []) := rfl
theorem iGraphDeltasModel_same_38 : ai_find (ai_tab mGraphDeltasModel_same) 38 = some (.bipush 16, 40, 0, 0, 0, .int (nI 16), []) := rfl
theorem iGraphDeltasModel_same_40 : ai_find (ai_tab mGraphDeltasModel_same) 40 = some (.iadd, 41, 0, 0, 0, .null, []) := rfl
theorem iGraphDeltasModel_same_41 : ai_find (ai_tab mGraphDeltasModel_same) 41 = some (.iload 4, 43, 4, 0, 0, .null, []) := rfl
theorem iGraphDeltasModel_same_43 : ai_find (ai_tab mGraphDeltasModel_same) 43 = some (.iadd, 44, 0, 0, 0, .null, []) := rfl
theorem iGraphDeltasModel_same_44 : ai_find (ai_tab mGraphDeltasModel_same) 44 = some (.baload, 45, 0, 0, 0, .null, []) := rfl
theorem iGraphDeltasModel_same_45 : ai_find (ai_tab mGraphDeltasModel_same) 45 = some (.istore 5, 47, 5, 0, 0, .null, []) := rfl
theorem iGraphDeltasModel_same_47 : ai_find (ai_tab mGraphDeltasModel_same) 47 = some (.iload_n 3, 48, 3, 0, 0, .null, []) := rfl
theorem iGraphDeltasModel_same_48 : ai_find (ai_tab mGraphDeltasModel_same) 48 = some (.ifCond .eq 27, 51, 75, 0, 0, .null, []) := rfl
theorem iGraphDeltasModel_same_51 : ai_find (ai_tab mGraphDeltasModel_same) 51 = some (.iload 5, 53, 5, 0, 0, .null, []) := rfl
theorem iGraphDeltasModel_same_53 : ai_find (ai_tab mGraphDeltasModel_same) 53 = some (.aload_n 0, 54, 0, 0, 0, .null, []) := rfl
theorem iGraphDeltasModel_same_54 : ai_find (ai_tab mGraphDeltasModel_same) 54 = some (.getfield 17, 57, 7, 3, 0, .null, []) := rfl
theorem iGraphDeltasModel_same_57 : ai_find (ai_tab mGraphDeltasModel_same) 57 = some (.bipush 16, 59, 0, 0, 0, .int (nI 16), []) := rfl
theorem iGraphDeltasModel_same_59 : ai_find (ai_tab mGraphDeltasModel_same) 59 = some (.iload_n 2, 60, 2, 0, 0, .null, []) := rfl
theorem iGraphDeltasModel_same_60 : ai_find (ai_tab mGraphDeltasModel_same) 60 = some (.imul, 61, 0, 0, 0, .null, []) := rfl
theorem iGraphDeltasModel_same_61 : ai_find (ai_tab mGraphDeltasModel_same) 61 = some (.bipush 16, 63, 0, 0, 0, .int (nI 16), []) := rfl
theorem iGraphDeltasModel_same_63 : ai_find (ai_tab mGraphDeltasModel_same) 63 = some (.iadd, 64, 0, 0, 0, .null, []) := rfl
theorem iGraphDeltasModel_same_64 : ai_find (ai_tab mGraphDeltasModel_same) 64 = some (.iload 4, 66, 4, 0, 0, .null, []) := rfl
theorem iGraphDeltasModel_same_66 : ai_find (ai_tab mGraphDeltasModel_same) 66 = some (.iadd, 67, 0, 0, 0, .null, []) := rfl
theorem iGraphDeltasModel_same_67 : ai_find (ai_tab mGraphDeltasModel_same) 67 = some (.baload, 68, 0, 0, 0, .null, []) := rfl
theorem iGraphDeltasModel_same_68 : ai_find (ai_tab mGraphDeltasModel_same) 68 = some (.if_icmp .ne 7, 71, 75, 0, 0, .null, []) := rfl
theorem iGraphDeltasModel_same_71 : ai_find (ai_tab mGraphDeltasModel_same) 71 = some (.iconst 1, 72, 0, 0, 0, .int (nI 1), []) := rfl
theorem iGraphDeltasModel_same_72 : ai_find (ai_tab mGraphDeltasModel_same) 72 = some (.goto 4, 75, 76, 0, 0, .null, []) := rfl
theorem iGraphDeltasModel_same_75 : ai_find (ai_tab mGraphDeltasModel_same) 75 = some (.iconst 0, 76, 0, 0, 0, .int (nI 0), []) := rfl
theorem iGraphDeltasModel_same_76 : ai_find (ai_tab mGraphDeltasModel_same) 76 = some (.istore_n 3, 77, 3, 0, 0, .null, []) := rfl
theorem iGraphDeltasModel_same_77 : ai_find (ai_tab mGraphDeltasModel_same) 77 = some (.iload 5, 79, 5, 0, 0, .null, []) := rfl
theorem iGraphDeltasModel_same_79 : ai_find (ai_tab mGraphDeltasModel_same) 79 = some (.ifCond .eq 109, 82, 188, 0, 0, .null, []) := rfl
theorem iGraphDeltasModel_same_82 : ai_find (ai_tab mGraphDeltasModel_same) 82 = some (.iload_n 3, 83, 3, 0, 0, .null, []) := rfl
theorem iGraphDeltasModel_same_83 : ai_find (ai_tab mGraphDeltasModel_same) 83 = some (.ifCond .eq 105, 86, 188, 0, 0, .null, []) := rfl
theorem iGraphDeltasModel_same_86 : ai_find (ai_tab mGraphDeltasModel_same) 86 = some (.aload_n 0, 87, 0, 0, 0, .null, []) := rfl
theorem iGraphDeltasModel_same_87 : ai_find (ai_tab mGraphDeltasModel_same) 87 = some (.getfield 13, 90, 7, 1, 0, .null, []) := rfl
theorem iGraphDeltasModel_same_90 : ai_find (ai_tab mGraphDeltasModel_same) 90 = some (.iload 4, 92, 4, 0, 0, .null, []) := rfl
theorem iGraphDeltasModel_same_92 : ai_find (ai_tab mGraphDeltasModel_same) 92 = some (.baload, 93, 0, 0, 0, .null, []) := rfl
theorem iGraphDeltasModel_same_93 : ai_find (ai_tab mGraphDeltasModel_same) 93 = some (.ifCond .eq 21, 96, 114, 0, 0, .null, []) := rfl
theorem iGraphDeltasModel_same_96 : ai_find (ai_tab mGraphDeltasModel_same) 96 = some (.aload_n 0, 97, 0, 0, 0, .null, []) := rfl
theorem iGraphDeltasModel_same_97 : ai_find (ai_tab mGraphDeltasModel_same) 97 = some (.getfield 20, 100, 7, 4, 0, .null, []) := rfl
theorem iGraphDeltasModel_same_100 : ai_find (ai_tab mGraphDeltasModel_same) 100 = some (.bipush 16, 102, 0, 0, 0, .int (nI 16), []) := rfl
theorem iGraphDeltasModel_same_102 : ai_find (ai_tab mGraphDeltasModel_same) 102 = some (.iload_n 1, 103, 1, 0, 0, .null, []) := rfl
theorem iGraphDeltasModel_same_103 : ai_find (ai_tab mGraphDeltasModel_same) 103 = some (.imul, 104, 0, 0, 0, .null, []) := rfl
theorem iGraphDeltasModel_same_104 : ai_find (ai_tab mGraphDeltasModel_same) 104 = some (.bipush 16, 106, 0, 0, 0, .int (nI 16), []) := rfl
set_option maxRecDepth 20000 in theorem iGraphDeltasModel_same_106 : ai_find (ai_tab mGraphDeltasModel_same) 106 = some (.iadd, 107, 0, 0, 0, .null, []) := rfl
set_option maxRecDepth 20000 in theorem iGraphDeltasModel_same_107 : ai_find (ai_tab mGraphDeltasModel_same) 107 = some (.iload 4, 109, 4, 0, 0, .null, []) := rfl
set_option maxRecDepth 20000 in theorem iGraphDeltasModel_same_109 : ai_find (ai_tab mGraphDeltasModel_same) 109 = some (.iadd, 110, 0, 0, 0, .null, []) := rfl
set_option maxRecDepth 20000 in theorem iGraphDeltasModel_same_110 : ai_find (ai_tab mGraphDeltasModel_same) 110 = some (.iaload, 111, 0, 0, 0, .null, []) := rfl
set_option maxRecDepth 20000 in theorem iGraphDeltasModel_same_111 : ai_find (ai_tab mGraphDeltasModel_same) 111 = some (.goto 4, 114, 115, 0, 0, .null, []) := rfl
set_option maxRecDepth 20000 in theorem iGraphDeltasModel_same_114 : ai_find (ai_tab mGraphDeltasModel_same) 114 = some (.iconst 3, 115, 0, 0, 0, .int (nI 3), []) := rfl
set_option maxRecDepth 20000 in theorem iGraphDeltasModel_same_115 : ai_find (ai_tab mGraphDeltasModel_same) 115 = some (.istore 6, 117, 6, 0, 0, .null, []) := rfl
set_option maxRecDepth 20000 in theorem iGraphDeltasModel_same_117 : ai_find (ai_tab mGraphDeltasModel_same) 117 = some (.aload_n 0, 118, 0, 0, 0, .null, []) := rfl
set_option maxRecDepth 20000 in theorem iGraphDeltasModel_same_118 : ai_find (ai_tab mGraphDeltasModel_same) 118 = some (.getfield 13, 121, 7, 1, 0, .null, []) := rfl
set_option maxRecDepth 20000 in theorem iGraphDeltasModel_same_121 : ai_find (ai_tab mGraphDeltasModel_same) 121 = some (.iload 4, 123, 4, 0, 0, .null, []) := rfl
set_option maxRecDepth 20000 in theorem iGraphDeltasModel_same_123 : ai_find (ai_tab mGraphDeltasModel_same) 123 = some (.baload, 124, 0, 0, 0, .null, []) := rfl
set_option maxRecDepth 20000 in theorem iGraphDeltasModel_same_124 : ai_find (ai_tab mGraphDeltasModel_same) 124 = some (.ifCond .eq 23, 127, 147, 0, 0, .null, []) := rfl
set_option maxRecDepth 20000 in theorem iGraphDeltasModel_same_127 : ai_find (ai_tab mGraphDeltasModel_same) 127 = some (.iload 6, 129, 6, 0, 0, .null, []) := rfl
set_option maxRecDepth 20000 in theorem iGraphDeltasModel_same_129 : ai_find (ai_tab mGraphDeltasModel_same) 129 = some (.aload_n 0, 130, 0, 0, 0, .null, []) := rfl
set_option maxRecDepth 20000 in theorem iGraphDeltasModel_same_130 : ai_find (ai_tab mGraphDeltasModel_same) 130 = some (.getfield 20, 133, 7, 4, 0, .null, []) := rfl
set_option maxRecDepth 20000 in theorem iGraphDeltasModel_same_133 : ai_find (ai_tab mGraphDeltasModel_same) 133 = some (.bipush 16, 135, 0, 0, 0, .int (nI 16), []) := rfl
set_option maxRecDepth 20000 in theorem iGraphDeltasModel_same_135 : ai_find (ai_tab mGraphDeltasModel_same) 135 = some (.iload_n 2, 136, 2, 0, 0, .null, []) := rfl
set_option maxRecDepth 20000 in theorem iGraphDeltasModel_same_136 : ai_find (ai_tab mGraphDeltasModel_same) 136 = some (.imul, 137, 0, 0, 0, .null, []) := rfl
set_option maxRecDepth 20000 in theorem iGraphDeltasModel_same_137 : ai_find (ai_tab mGraphDeltasModel_same) 137 = some (.bipush 16, 139, 0, 0, 0, .int (nI 16), []) := rfl
set_option maxRecDepth 20000 in theorem iGraphDeltasModel_same_139 : ai_find (ai_tab mGraphDeltasModel_same) 139 = some (.iadd, 140, 0, 0, 0, .null, []) := rfl
set_option maxRecDepth 20000 in theorem iGraphDeltasModel_same_140 : ai_find (ai_tab mGraphDeltasModel_same) 140 = some (.iload 4, 142, 4, 0, 0, .null, []) := rfl
set_option maxRecDepth 20000 in theorem iGraphDeltasModel_same_142 : ai_find (ai_tab mGraphDeltasModel_same) 142 = some (.iadd, 143, 0, 0, 0, .null, []) := rfl
set_option maxRecDepth 20000 in theorem iGraphDeltasModel_same_143 : ai_find (ai_tab mGraphDeltasModel_same) 143 = some (.iaload, 144, 0, 0, 0, .null, []) := rfl
set_option maxRecDepth 20000 in theorem iGraphDeltasModel_same_144 : ai_find (ai_tab mGraphDeltasModel_same) 144 = some (.if_icmp .ne 7, 147, 151, 0, 0, .null, []) := rfl
set_option maxRecDepth 20000 in theorem iGraphDeltasModel_same_147 : ai_find (ai_tab mGraphDeltasModel_same) 147 = some (.iconst 1, 148, 0, 0, 0, .int (nI 1), []) := rfl
set_option maxRecDepth 20000 in theorem iGraphDeltasModel_same_148 : ai_find (ai_tab mGraphDeltasModel_same) 148 = some (.goto 4, 151, 152, 0, 0, .null, []) := rfl
set_option maxRecDepth 20000 in theorem iGraphDeltasModel_same_151 : ai_find (ai_tab mGraphDeltasModel_same) 151 = some (.iconst 0, 152, 0, 0, 0, .int (nI 0), []) := rfl
set_option maxRecDepth 20000 in theorem iGraphDeltasModel_same_152 : ai_find (ai_tab mGraphDeltasModel_same) 152 = some (.istore_n 3, 153, 3, 0, 0, .null, []) := rfl
set_option maxRecDepth 20000 in theorem iGraphDeltasModel_same_153 : ai_find (ai_tab mGraphDeltasModel_same) 153 = some (.iconst 0, 154, 0, 0, 0, .int (nI 0), []) := rfl
set_option maxRecDepth 20000 in theorem iGraphDeltasModel_same_154 : ai_find (ai_tab mGraphDeltasModel_same) 154 = some (.istore 7, 156, 7, 0, 0, .null, []) := rfl
set_option maxRecDepth 20000 in theorem iGraphDeltasModel_same_156 : ai_find (ai_tab mGraphDeltasModel_same) 156 = some (.iload 7, 158, 7, 0, 0, .null, []) := rfl
set_option maxRecDepth 20000 in theorem iGraphDeltasModel_same_158 : ai_find (ai_tab mGraphDeltasModel_same) 158 = some (.iload 6, 160, 6, 0, 0, .null, []) := rfl
set_option maxRecDepth 20000 in theorem iGraphDeltasModel_same_160 : ai_find (ai_tab mGraphDeltasModel_same) 160 = some (.if_icmp .ge 28, 163, 188, 0, 0, .null, []) := rfl
set_option maxRecDepth 20000 in theorem iGraphDeltasModel_same_163 : ai_find (ai_tab mGraphDeltasModel_same) 163 = some (.iload_n 3, 164, 3, 0, 0, .null, []) := rfl
set_option maxRecDepth 20000 in theorem iGraphDeltasModel_same_164 : ai_find (ai_tab mGraphDeltasModel_same) 164 = some (.ifCond .eq 24, 167, 188, 0, 0, .null, []) := rfl
set_option maxRecDepth 20000 in theorem iGraphDeltasModel_same_167 : ai_find (ai_tab mGraphDeltasModel_same) 167 = some (.aload_n 0, 168, 0, 0, 0, .null, []) := rfl
set_option maxRecDepth 20000 in theorem iGraphDeltasModel_same_168 : ai_find (ai_tab mGraphDeltasModel_same) 168 = some (.iload_n 1, 169, 1, 0, 0, .null, []) := rfl
set_option maxRecDepth 20000 in theorem iGraphDeltasModel_same_169 : ai_find (ai_tab mGraphDeltasModel_same) 169 = some (.iconst 1, 170, 0, 0, 0, .int (nI 1), []) := rfl
set_option maxRecDepth 20000 in theorem iGraphDeltasModel_same_170 : ai_find (ai_tab mGraphDeltasModel_same) 170 = some (.iadd, 171, 0, 0, 0, .null, []) := rfl
set_option maxRecDepth 20000 in theorem iGraphDeltasModel_same_171 : ai_find (ai_tab mGraphDeltasModel_same) 171 = some (.iload_n 2, 172, 2, 0, 0, .null, []) := rfl
set_option maxRecDepth 20000 in theorem iGraphDeltasModel_same_172 : ai_find (ai_tab mGraphDeltasModel_same) 172 = some (.iconst 1, 173, 0, 0, 0, .int (nI 1), []) := rfl
set_option maxRecDepth 20000 in theorem iGraphDeltasModel_same_173 : ai_find (ai_tab mGraphDeltasModel_same) 173 = some (.iadd, 174, 0, 0, 0, .null, []) := rfl
set_option maxRecDepth 20000 in theorem iGraphDeltasModel_same_174 : ai_find (ai_tab mGraphDeltasModel_same) 174 = some (.iload 4, 176, 4, 0, 0, .null, []) := rfl
set_option maxRecDepth 20000 in theorem iGraphDeltasModel_same_176 : ai_find (ai_tab mGraphDeltasModel_same) 176 = some (.iload 7, 178, 7, 0, 0, .null, []) := rfl
set_option maxRecDepth 20000 in theorem iGraphDeltasModel_same_178 : ai_find (ai_tab mGraphDeltasModel_same) 178 = some (.invokevirtual 101, 181, 121, 5, 1, .ref 7, []) := rfl
set_option maxRecDepth 20000 in theorem iGraphDeltasModel_same_181 : ai_find (ai_tab mGraphDeltasModel_same) 181 = some (.istore_n 3, 182, 3, 0, 0, .null, []) := rfl
set_option maxRecDepth 20000 in theorem iGraphDeltasModel_same_182 : ai_find (ai_tab mGraphDeltasModel_same) 182 = some (.iinc 7 1, 185, 7, 0, 0, .int (nI 1), []) := rfl
set_option maxRecDepth 20000 in theorem iGraphDeltasModel_same_185 : ai_find (ai_tab mGraphDeltasModel_same) 185 = some (.goto (-29), 188, 156, 0, 0, .null, []) := rfl
set_option maxRecDepth 20000 in theorem iGraphDeltasModel_same_188 : ai_find (ai_tab mGraphDeltasModel_same) 188 = some (.iinc 4 1, 191, 4, 0, 0, .int (nI 1), []) := rfl
set_option maxRecDepth 20000 in theorem iGraphDeltasModel_same_191 : ai_find (ai_tab mGraphDeltasModel_same) 191 = some (.goto (-168), 194, 23, 0, 0, .null, []) := rfl
set_option maxRecDepth 20000 in theorem iGraphDeltasModel_same_194 : ai_find (ai_tab mGraphDeltasModel_same) 194 = some (.iload_n 3, 195, 3, 0, 0, .null, []) := rfl
set_option maxRecDepth 20000 in theorem iGraphDeltasModel_same_195 : ai_find (ai_tab mGraphDeltasModel_same) 195 = some (.ireturn, 196, 1, 0, 0, .null, []) := rfl
theorem iGraphDeltasModel_sets_0 : ai_find (ai_tab mGraphDeltasModel_sets) 0 = some (.iconst 0, 1, 0, 0, 0, .int (nI 0), []) := rfl
theorem iGraphDeltasModel_sets_1 : ai_find (ai_tab mGraphDeltasModel_sets) 1 = some (.istore 5, 3, 5, 0, 0, .null, []) := rfl
theorem iGraphDeltasModel_sets_3 : ai_find (ai_tab mGraphDeltasModel_sets) 3 = some (.iload 5, 5, 5, 0, 0, .null, []) := rfl
theorem iGraphDeltasModel_sets_5 : ai_find (ai_tab mGraphDeltasModel_sets) 5 = some (.iconst 3, 6, 0, 0, 0, .int (nI 3), []) := rfl
theorem iGraphDeltasModel_sets_6 : ai_find (ai_tab mGraphDeltasModel_sets) 6 = some (.if_icmp .ge 145, 9, 151, 0, 0, .null, []) := rfl
theorem iGraphDeltasModel_sets_9 : ai_find (ai_tab mGraphDeltasModel_sets) 9 = some (.aload_n 0, 10, 0, 0, 0, .null, []) := rfl
theorem iGraphDeltasModel_sets_10 : ai_find (ai_tab mGraphDeltasModel_sets) 10 = some (.getfield 24, 13, 7, 5, 0, .null, []) := rfl
theorem iGraphDeltasModel_sets_13 : ai_find (ai_tab mGraphDeltasModel_sets) 13 = some (.bipush 96, 15, 0, 0, 0, .int (nI 96), []) := rfl
theorem iGraphDeltasModel_sets_15 : ai_find (ai_tab mGraphDeltasModel_sets) 15 = some (.iload_n 3, 16, 3, 0, 0, .null, []) := rfl
theorem iGraphDeltasModel_sets_16 : ai_find (ai_tab mGraphDeltasModel_sets) 16 = some (.imul, 17, 0, 0, 0, .null, []) := rfl
theorem iGraphDeltasModel_sets_17 : ai_find (ai_tab mGraphDeltasModel_sets) 17 = some (.bipush 6, 19, 0, 0, 0, .int (nI 6), []) := rfl
theorem iGraphDeltasModel_sets_19 : ai_find (ai_tab mGraphDeltasModel_sets) 19 = some (.iload 4, 21, 4, 0, 0, .null, []) := rfl
theorem iGraphDeltasModel_sets_21 : ai_find (ai_tab mGraphDeltasModel_sets) 21 = some (.imul, 22, 0, 0, 0, .null, []) := rfl
theorem iGraphDeltasModel_sets_22 : ai_find (ai_tab mGraphDeltasModel_sets) 22 = some (.iadd, 23, 0, 0, 0, .null, []) := rfl
theorem iGraphDeltasModel_sets_23 : ai_find (ai_tab mGraphDeltasModel_sets) 23 = some (.iload 5, 25, 5, 0, 0, .null, []) := rfl
theorem iGraphDeltasModel_sets_25 : ai_find (ai_tab mGraphDeltasModel_sets) 25 = some (.iadd, 26, 0, 0, 0, .null, []) := rfl
theorem iGraphDeltasModel_sets_26 : ai_find (ai_tab mGraphDeltasModel_sets) 26 = some (.laload, 27, 0, 0, 0, .null, []) := rfl
theorem iGraphDeltasModel_sets_27 : ai_find (ai_tab mGraphDeltasModel_sets) 27 = some (.lstore 6, 29, 6, 0, 0, .null, []) := rfl
theorem iGraphDeltasModel_sets_29 : ai_find (ai_tab mGraphDeltasModel_sets) 29 = some (.aload_n 0, 30, 0, 0, 0, .null, []) := rfl
theorem iGraphDeltasModel_sets_30 : ai_find (ai_tab mGraphDeltasModel_sets) 30 = some (.getfield 17, 33, 7, 3, 0, .null, []) := rfl
theorem iGraphDeltasModel_sets_33 : ai_find (ai_tab mGraphDeltasModel_sets) 33 = some (.bipush 16, 35, 0, 0, 0, .int (nI 16), []) := rfl
theorem iGraphDeltasModel_sets_35 : ai_find (ai_tab mGraphDeltasModel_sets) 35 = some (.iload_n 2, 36, 2, 0, 0, .null, []) := rfl
theorem iGraphDeltasModel_sets_36 : ai_find (ai_tab mGraphDeltasModel_sets) 36 = some (.imul, 37, 0, 0, 0, .null, []) := rfl
theorem iGraphDeltasModel_sets_37 : ai_find (ai_tab mGraphDeltasModel_sets) 37 = some (.iload 4, 39, 4, 0, 0, .null, []) := rfl
theorem iGraphDeltasModel_sets_39 : ai_find (ai_tab mGraphDeltasModel_sets) 39 = some (.iadd, 40, 0, 0, 0, .null, []) := rfl
theorem iGraphDeltasModel_sets_40 : ai_find (ai_tab mGraphDeltasModel_sets) 40 = some (.baload, 41, 0, 0, 0, .null, []) := rfl
theorem iGraphDeltasModel_sets_41 : ai_find (ai_tab mGraphDeltasModel_sets) 41 = some (.ifCond .eq 24, 44, 65, 0, 0, .null, []) := rfl
theorem iGraphDeltasModel_sets_44 : ai_find (ai_tab mGraphDeltasModel_sets) 44 = some (.aload_n 0, 45, 0, 0, 0, .null, []) := rfl
theorem iGraphDeltasModel_sets_45 : ai_find (ai_tab mGraphDeltasModel_sets) 45 = some (.getfield 24, 48, 7, 5, 0, .null, []) := rfl
theorem iGraphDeltasModel_sets_48 : ai_find (ai_tab mGraphDeltasModel_sets) 48 = some (.bipush 96, 50, 0, 0, 0, .int (nI 96), []) := rfl
theorem iGraphDeltasModel_sets_50 : ai_find (ai_tab mGraphDeltasModel_sets) 50 = some (.iload_n 2, 51, 2, 0, 0, .null, []) := rfl
theorem iGraphDeltasModel_sets_51 : ai_find (ai_tab mGraphDeltasModel_sets) 51 = some (.imul, 52, 0, 0, 0, .null, []) := rfl
theorem iGraphDeltasModel_sets_52 : ai_find (ai_tab mGraphDeltasModel_sets) 52 = some (.bipush 6, 54, 0, 0, 0, .int (nI 6), []) := rfl
theorem iGraphDeltasModel_sets_54 : ai_find (ai_tab mGraphDeltasModel_sets) 54 = some (.iload 4, 56, 4, 0, 0, .null, []) := rfl
theorem iGraphDeltasModel_sets_56 : ai_find (ai_tab mGraphDeltasModel_sets) 56 = some (.imul, 57, 0, 0, 0, .null, []) := rfl
theorem iGraphDeltasModel_sets_57 : ai_find (ai_tab mGraphDeltasModel_sets) 57 = some (.iadd, 58, 0, 0, 0, .null, []) := rfl
theorem iGraphDeltasModel_sets_58 : ai_find (ai_tab mGraphDeltasModel_sets) 58 = some (.iload 5, 60, 5, 0, 0, .null, []) := rfl
theorem iGraphDeltasModel_sets_60 : ai_find (ai_tab mGraphDeltasModel_sets) 60 = some (.iadd, 61, 0, 0, 0, .null, []) := rfl
theorem iGraphDeltasModel_sets_61 : ai_find (ai_tab mGraphDeltasModel_sets) 61 = some (.laload, 62, 0, 0, 0, .null, []) := rfl
theorem iGraphDeltasModel_sets_62 : ai_find (ai_tab mGraphDeltasModel_sets) 62 = some (.goto 6, 65, 68, 0, 0, .null, []) := rfl
theorem iGraphDeltasModel_sets_65 : ai_find (ai_tab mGraphDeltasModel_sets) 65 = some (.ldc2_w 71, 68, 0, 0, 0, .long 8589934592, []) := rfl
theorem iGraphDeltasModel_sets_68 : ai_find (ai_tab mGraphDeltasModel_sets) 68 = some (.lstore 8, 70, 8, 0, 0, .null, []) := rfl
theorem iGraphDeltasModel_sets_70 : ai_find (ai_tab mGraphDeltasModel_sets) 70 = some (.lload 6, 72, 6, 0, 0, .null, []) := rfl
theorem iGraphDeltasModel_sets_72 : ai_find (ai_tab mGraphDeltasModel_sets) 72 = some (.lload 8, 74, 8, 0, 0, .null, []) := rfl
theorem iGraphDeltasModel_sets_74 : ai_find (ai_tab mGraphDeltasModel_sets) 74 = some (.lcmp, 75, 0, 0, 0, .null, []) := rfl
theorem iGraphDeltasModel_sets_75 : ai_find (ai_tab mGraphDeltasModel_sets) 75 = some (.ifCond .eq 70, 78, 145, 0, 0, .null, []) := rfl
theorem iGraphDeltasModel_sets_78 : ai_find (ai_tab mGraphDeltasModel_sets) 78 = some (.lload 6, 80, 6, 0, 0, .null, []) := rfl
theorem iGraphDeltasModel_sets_80 : ai_find (ai_tab mGraphDeltasModel_sets) 80 = some (.ldc2_w 71, 83, 0, 0, 0, .long 8589934592, []) := rfl
theorem iGraphDeltasModel_sets_83 : ai_find (ai_tab mGraphDeltasModel_sets) 83 = some (.lcmp, 84, 0, 0, 0, .null, []) := rfl
theorem iGraphDeltasModel_sets_84 : ai_find (ai_tab mGraphDeltasModel_sets) 84 = some (.ifCond .ne 7, 87, 91, 0, 0, .null, []) := rfl
theorem iGraphDeltasModel_sets_87 : ai_find (ai_tab mGraphDeltasModel_sets) 87 = some (.iconst 0, 88, 0, 0, 0, .int (nI 0), []) := rfl
theorem iGraphDeltasModel_sets_88 : ai_find (ai_tab mGraphDeltasModel_sets) 88 = some (.goto 17, 91, 105, 0, 0, .null, []) := rfl
theorem iGraphDeltasModel_sets_91 : ai_find (ai_tab mGraphDeltasModel_sets) 91 = some (.lload 6, 93, 6, 0, 0, .null, []) := rfl
theorem iGraphDeltasModel_sets_93 : ai_find (ai_tab mGraphDeltasModel_sets) 93 = some (.ldc2_w 84, 96, 0, 0, 0, .long 4294967296, []) := rfl
theorem iGraphDeltasModel_sets_96 : ai_find (ai_tab mGraphDeltasModel_sets) 96 = some (.lcmp, 97, 0, 0, 0, .null, []) := rfl
theorem iGraphDeltasModel_sets_97 : ai_find (ai_tab mGraphDeltasModel_sets) 97 = some (.ifCond .lt 7, 100, 104, 0, 0, .null, []) := rfl
theorem iGraphDeltasModel_sets_100 : ai_find (ai_tab mGraphDeltasModel_sets) 100 = some (.iconst 2, 101, 0, 0, 0, .int (nI 2), []) := rfl
theorem iGraphDeltasModel_sets_101 : ai_find (ai_tab mGraphDeltasModel_sets) 101 = some (.goto 4, 104, 105, 0, 0, .null, []) := rfl
theorem iGraphDeltasModel_sets_104 : ai_find (ai_tab mGraphDeltasModel_sets) 104 = some (.iconst 1, 105, 0, 0, 0, .int (nI 1), []) := rfl
theorem iGraphDeltasModel_sets_105 : ai_find (ai_tab mGraphDeltasModel_sets) 105 = some (.istore 10, 107, 10, 0, 0, .null, []) := rfl
theorem iGraphDeltasModel_sets_107 : ai_find (ai_tab mGraphDeltasModel_sets) 107 = some (.aload_n 0, 108, 0, 0, 0, .null, []) := rfl
set_option maxRecDepth 20000 in theorem iGraphDeltasModel_sets_108 : ai_find (ai_tab mGraphDeltasModel_sets) 108 = some (.iload_n 1, 109, 1, 0, 0, .null, []) := rfl
set_option maxRecDepth 20000 in theorem iGraphDeltasModel_sets_109 : ai_find (ai_tab mGraphDeltasModel_sets) 109 = some (.iconst 2, 110, 0, 0, 0, .int (nI 2), []) := rfl
set_option maxRecDepth 20000 in theorem iGraphDeltasModel_sets_110 : ai_find (ai_tab mGraphDeltasModel_sets) 110 = some (.iload 4, 112, 4, 0, 0, .null, []) := rfl
set_option maxRecDepth 20000 in theorem iGraphDeltasModel_sets_112 : ai_find (ai_tab mGraphDeltasModel_sets) 112 = some (.iload 5, 114, 5, 0, 0, .null, []) := rfl
set_option maxRecDepth 20000 in theorem iGraphDeltasModel_sets_114 : ai_find (ai_tab mGraphDeltasModel_sets) 114 = some (.iload 10, 116, 10, 0, 0, .null, []) := rfl
set_option maxRecDepth 20000 in theorem iGraphDeltasModel_sets_116 : ai_find (ai_tab mGraphDeltasModel_sets) 116 = some (.iload 10, 118, 10, 0, 0, .null, []) := rfl
set_option maxRecDepth 20000 in theorem iGraphDeltasModel_sets_118 : ai_find (ai_tab mGraphDeltasModel_sets) 118 = some (.ifCond .ne 7, 121, 125, 0, 0, .null, []) := rfl
set_option maxRecDepth 20000 in theorem iGraphDeltasModel_sets_121 : ai_find (ai_tab mGraphDeltasModel_sets) 121 = some (.lconst 0, 122, 0, 0, 0, .long 0, []) := rfl
set_option maxRecDepth 20000 in theorem iGraphDeltasModel_sets_122 : ai_find (ai_tab mGraphDeltasModel_sets) 122 = some (.goto 20, 125, 142, 0, 0, .null, []) := rfl
set_option maxRecDepth 20000 in theorem iGraphDeltasModel_sets_125 : ai_find (ai_tab mGraphDeltasModel_sets) 125 = some (.iload 10, 127, 10, 0, 0, .null, []) := rfl
set_option maxRecDepth 20000 in theorem iGraphDeltasModel_sets_127 : ai_find (ai_tab mGraphDeltasModel_sets) 127 = some (.iconst 2, 128, 0, 0, 0, .int (nI 2), []) := rfl
set_option maxRecDepth 20000 in theorem iGraphDeltasModel_sets_128 : ai_find (ai_tab mGraphDeltasModel_sets) 128 = some (.if_icmp .ne 12, 131, 140, 0, 0, .null, []) := rfl
set_option maxRecDepth 20000 in theorem iGraphDeltasModel_sets_131 : ai_find (ai_tab mGraphDeltasModel_sets) 131 = some (.lload 6, 133, 6, 0, 0, .null, []) := rfl
set_option maxRecDepth 20000 in theorem iGraphDeltasModel_sets_133 : ai_find (ai_tab mGraphDeltasModel_sets) 133 = some (.ldc2_w 84, 136, 0, 0, 0, .long 4294967296, []) := rfl
set_option maxRecDepth 20000 in theorem iGraphDeltasModel_sets_136 : ai_find (ai_tab mGraphDeltasModel_sets) 136 = some (.lsub, 137, 0, 0, 0, .null, []) := rfl
set_option maxRecDepth 20000 in theorem iGraphDeltasModel_sets_137 : ai_find (ai_tab mGraphDeltasModel_sets) 137 = some (.goto 5, 140, 142, 0, 0, .null, []) := rfl
set_option maxRecDepth 20000 in theorem iGraphDeltasModel_sets_140 : ai_find (ai_tab mGraphDeltasModel_sets) 140 = some (.lload 6, 142, 6, 0, 0, .null, []) := rfl
set_option maxRecDepth 20000 in theorem iGraphDeltasModel_sets_142 : ai_find (ai_tab mGraphDeltasModel_sets) 142 = some (.invokevirtual 116, 145, 119, 7, 1, .ref 7, []) := rfl
set_option maxRecDepth 20000 in theorem iGraphDeltasModel_sets_145 : ai_find (ai_tab mGraphDeltasModel_sets) 145 = some (.iinc 5 1, 148, 5, 0, 0, .int (nI 1), []) := rfl
set_option maxRecDepth 20000 in theorem iGraphDeltasModel_sets_148 : ai_find (ai_tab mGraphDeltasModel_sets) 148 = some (.goto (-145), 151, 3, 0, 0, .null, []) := rfl
set_option maxRecDepth 20000 in theorem iGraphDeltasModel_sets_151 : ai_find (ai_tab mGraphDeltasModel_sets) 151 = some (.return_, 152, 0, 0, 0, .null, []) := rfl
theorem iGraphDeltasModel_size_0 : ai_find (ai_tab mGraphDeltasModel_size) 0 = some (.iconst 0, 1, 0, 0, 0, .int (nI 0), []) := rfl
theorem iGraphDeltasModel_size_1 : ai_find (ai_tab mGraphDeltasModel_size) 1 = some (.istore_n 1, 2, 1, 0, 0, .null, []) := rfl
theorem iGraphDeltasModel_size_2 : ai_find (ai_tab mGraphDeltasModel_size) 2 = some (.iconst 0, 3, 0, 0, 0, .int (nI 0), []) := rfl
theorem iGraphDeltasModel_size_3 : ai_find (ai_tab mGraphDeltasModel_size) 3 = some (.istore_n 2, 4, 2, 0, 0, .null, []) := rfl
theorem iGraphDeltasModel_size_4 : ai_find (ai_tab mGraphDeltasModel_size) 4 = some (.iload_n 2, 5, 2, 0, 0, .null, []) := rfl
theorem iGraphDeltasModel_size_5 : ai_find (ai_tab mGraphDeltasModel_size) 5 = some (.bipush 6, 7, 0, 0, 0, .int (nI 6), []) := rfl
theorem iGraphDeltasModel_size_7 : ai_find (ai_tab mGraphDeltasModel_size) 7 = some (.if_icmp .ge 17, 10, 24, 0, 0, .null, []) := rfl
theorem iGraphDeltasModel_size_10 : ai_find (ai_tab mGraphDeltasModel_size) 10 = some (.iload_n 1, 11, 1, 0, 0, .null, []) := rfl
theorem iGraphDeltasModel_size_11 : ai_find (ai_tab mGraphDeltasModel_size) 11 = some (.iload_n 0, 12, 0, 0, 0, .null, []) := rfl
theorem iGraphDeltasModel_size_12 : ai_find (ai_tab mGraphDeltasModel_size) 12 = some (.iload_n 2, 13, 2, 0, 0, .null, []) := rfl
theorem iGraphDeltasModel_size_13 : ai_find (ai_tab mGraphDeltasModel_size) 13 = some (.ishr, 14, 0, 0, 0, .null, []) := rfl
theorem iGraphDeltasModel_size_14 : ai_find (ai_tab mGraphDeltasModel_size) 14 = some (.iconst 1, 15, 0, 0, 0, .int (nI 1), []) := rfl
theorem iGraphDeltasModel_size_15 : ai_find (ai_tab mGraphDeltasModel_size) 15 = some (.iand, 16, 0, 0, 0, .null, []) := rfl
theorem iGraphDeltasModel_size_16 : ai_find (ai_tab mGraphDeltasModel_size) 16 = some (.iadd, 17, 0, 0, 0, .null, []) := rfl
theorem iGraphDeltasModel_size_17 : ai_find (ai_tab mGraphDeltasModel_size) 17 = some (.istore_n 1, 18, 1, 0, 0, .null, []) := rfl
theorem iGraphDeltasModel_size_18 : ai_find (ai_tab mGraphDeltasModel_size) 18 = some (.iinc 2 1, 21, 2, 0, 0, .int (nI 1), []) := rfl
theorem iGraphDeltasModel_size_21 : ai_find (ai_tab mGraphDeltasModel_size) 21 = some (.goto (-17), 24, 4, 0, 0, .null, []) := rfl
theorem iGraphDeltasModel_size_24 : ai_find (ai_tab mGraphDeltasModel_size) 24 = some (.iload_n 1, 25, 1, 0, 0, .null, []) := rfl
theorem iGraphDeltasModel_size_25 : ai_find (ai_tab mGraphDeltasModel_size) 25 = some (.ireturn, 26, 0, 0, 0, .null, []) := rfl
theorem iGraphDeltasModel_slot_0 : ai_find (ai_tab mGraphDeltasModel_slot) 0 = some (.aload_n 0, 1, 0, 0, 0, .null, []) := rfl
theorem iGraphDeltasModel_slot_1 : ai_find (ai_tab mGraphDeltasModel_slot) 1 = some (.iload_n 1, 2, 1, 0, 0, .null, []) := rfl
theorem iGraphDeltasModel_slot_2 : ai_find (ai_tab mGraphDeltasModel_slot) 2 = some (.invokevirtual 77, 5, 151, 2, 1, .ref 7, []) := rfl
theorem iGraphDeltasModel_slot_5 : ai_find (ai_tab mGraphDeltasModel_slot) 5 = some (.ifCond .eq 25, 8, 30, 0, 0, .null, []) := rfl
theorem iGraphDeltasModel_slot_8 : ai_find (ai_tab mGraphDeltasModel_slot) 8 = some (.aload_n 0, 9, 0, 0, 0, .null, []) := rfl
theorem iGraphDeltasModel_slot_9 : ai_find (ai_tab mGraphDeltasModel_slot) 9 = some (.getfield 13, 12, 7, 1, 0, .null, []) := rfl
theorem iGraphDeltasModel_slot_12 : ai_find (ai_tab mGraphDeltasModel_slot) 12 = some (.iload_n 1, 13, 1, 0, 0, .null, []) := rfl
theorem iGraphDeltasModel_slot_13 : ai_find (ai_tab mGraphDeltasModel_slot) 13 = some (.baload, 14, 0, 0, 0, .null, []) := rfl
theorem iGraphDeltasModel_slot_14 : ai_find (ai_tab mGraphDeltasModel_slot) 14 = some (.ifCond .ne 16, 17, 30, 0, 0, .null, []) := rfl
theorem iGraphDeltasModel_slot_17 : ai_find (ai_tab mGraphDeltasModel_slot) 17 = some (.iload_n 2, 18, 2, 0, 0, .null, []) := rfl
theorem iGraphDeltasModel_slot_18 : ai_find (ai_tab mGraphDeltasModel_slot) 18 = some (.ifCond .lt 12, 21, 30, 0, 0, .null, []) := rfl
theorem iGraphDeltasModel_slot_21 : ai_find (ai_tab mGraphDeltasModel_slot) 21 = some (.iload_n 2, 22, 2, 0, 0, .null, []) := rfl
theorem iGraphDeltasModel_slot_22 : ai_find (ai_tab mGraphDeltasModel_slot) 22 = some (.iconst 2, 23, 0, 0, 0, .int (nI 2), []) := rfl
theorem iGraphDeltasModel_slot_23 : ai_find (ai_tab mGraphDeltasModel_slot) 23 = some (.if_icmp .gt 7, 26, 30, 0, 0, .null, []) := rfl
theorem iGraphDeltasModel_slot_26 : ai_find (ai_tab mGraphDeltasModel_slot) 26 = some (.iconst 1, 27, 0, 0, 0, .int (nI 1), []) := rfl
theorem iGraphDeltasModel_slot_27 : ai_find (ai_tab mGraphDeltasModel_slot) 27 = some (.goto 4, 30, 31, 0, 0, .null, []) := rfl
theorem iGraphDeltasModel_slot_30 : ai_find (ai_tab mGraphDeltasModel_slot) 30 = some (.iconst 0, 31, 0, 0, 0, .int (nI 0), []) := rfl
theorem iGraphDeltasModel_slot_31 : ai_find (ai_tab mGraphDeltasModel_slot) 31 = some (.ireturn, 32, 1, 0, 0, .null, []) := rfl
theorem iGraphDeltasModel_snapshot_0 : ai_find (ai_tab mGraphDeltasModel_snapshot) 0 = some (.aload_n 0, 1, 0, 0, 0, .null, []) := rfl
theorem iGraphDeltasModel_snapshot_1 : ai_find (ai_tab mGraphDeltasModel_snapshot) 1 = some (.getfield 88, 4, 7, 2, 0, .null, []) := rfl
theorem iGraphDeltasModel_snapshot_4 : ai_find (ai_tab mGraphDeltasModel_snapshot) 4 = some (.bipush 8, 6, 0, 0, 0, .int (nI 8), []) := rfl
theorem iGraphDeltasModel_snapshot_6 : ai_find (ai_tab mGraphDeltasModel_snapshot) 6 = some (.if_icmp .ne 6, 9, 12, 0, 0, .null, []) := rfl
theorem iGraphDeltasModel_snapshot_9 : ai_find (ai_tab mGraphDeltasModel_snapshot) 9 = some (.bipush (-2), 11, 0, 0, 0, .int (-2), []) := rfl
theorem iGraphDeltasModel_snapshot_11 : ai_find (ai_tab mGraphDeltasModel_snapshot) 11 = some (.ireturn, 12, 0, 0, 0, .null, []) := rfl
theorem iGraphDeltasModel_snapshot_12 : ai_find (ai_tab mGraphDeltasModel_snapshot) 12 = some (.aload_n 0, 13, 0, 0, 0, .null, []) := rfl
