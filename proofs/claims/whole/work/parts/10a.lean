theorem iGraphDeltas_init_0 : ai_find (ai_tab mGraphDeltas_init) 0 = some (.aload_n 0, 1, 0, 0, 0, .null, []) := rfl
theorem iGraphDeltas_init_1 : ai_find (ai_tab mGraphDeltas_init) 1 = some (.invokespecial 1, 4, 0, 1, 3, .null, []) := rfl
theorem iGraphDeltas_init_4 : ai_find (ai_tab mGraphDeltas_init) 4 = some (.aload_n 0, 5, 0, 0, 0, .null, []) := rfl
theorem iGraphDeltas_init_5 : ai_find (ai_tab mGraphDeltas_init) 5 = some (.bipush 16, 7, 0, 0, 0, .int (nI 16), []) := rfl
theorem iGraphDeltas_init_7 : ai_find (ai_tab mGraphDeltas_init) 7 = some (.newarray .int, 9, 0, 0, 0, .null, []) := rfl
theorem iGraphDeltas_init_9 : ai_find (ai_tab mGraphDeltas_init) 9 = some (.putfield 9, 12, 0, 0, 3, .null, []) := rfl
theorem iGraphDeltas_init_12 : ai_find (ai_tab mGraphDeltas_init) 12 = some (.aload_n 0, 13, 0, 0, 0, .null, []) := rfl
theorem iGraphDeltas_init_13 : ai_find (ai_tab mGraphDeltas_init) 13 = some (.new 13, 16, 4, 0, 0, .null, [(0, 3), (0, 3), (0, 3), (0, 3)]) := rfl
theorem iGraphDeltas_init_16 : ai_find (ai_tab mGraphDeltas_init) 16 = some (.dup, 17, 0, 0, 0, .null, []) := rfl
theorem iGraphDeltas_init_17 : ai_find (ai_tab mGraphDeltas_init) 17 = some (.invokespecial 15, 20, 70, 1, 2, .null, []) := rfl
theorem iGraphDeltas_init_20 : ai_find (ai_tab mGraphDeltas_init) 20 = some (.putfield 16, 23, 0, 2, 3, .null, []) := rfl
theorem iGraphDeltas_init_23 : ai_find (ai_tab mGraphDeltas_init) 23 = some (.aload_n 0, 24, 0, 0, 0, .null, []) := rfl
theorem iGraphDeltas_init_24 : ai_find (ai_tab mGraphDeltas_init) 24 = some (.bipush 8, 26, 0, 0, 0, .int (nI 8), []) := rfl
theorem iGraphDeltas_init_26 : ai_find (ai_tab mGraphDeltas_init) 26 = some (.anewarray 13, 29, 3, 0, 0, .null, []) := rfl
theorem iGraphDeltas_init_29 : ai_find (ai_tab mGraphDeltas_init) 29 = some (.putfield 20, 32, 0, 3, 3, .null, []) := rfl
theorem iGraphDeltas_init_32 : ai_find (ai_tab mGraphDeltas_init) 32 = some (.aload_n 0, 33, 0, 0, 0, .null, []) := rfl
theorem iGraphDeltas_init_33 : ai_find (ai_tab mGraphDeltas_init) 33 = some (.new 24, 36, 1, 0, 0, .null, [(0, 3), (0, 0)]) := rfl
theorem iGraphDeltas_init_36 : ai_find (ai_tab mGraphDeltas_init) 36 = some (.dup, 37, 0, 0, 0, .null, []) := rfl
theorem iGraphDeltas_init_37 : ai_find (ai_tab mGraphDeltas_init) 37 = some (.invokespecial 26, 40, 22, 1, 2, .null, []) := rfl
theorem iGraphDeltas_init_40 : ai_find (ai_tab mGraphDeltas_init) 40 = some (.putfield 27, 43, 0, 5, 3, .null, []) := rfl
theorem iGraphDeltas_init_43 : ai_find (ai_tab mGraphDeltas_init) 43 = some (.aload_n 0, 44, 0, 0, 0, .null, []) := rfl
theorem iGraphDeltas_init_44 : ai_find (ai_tab mGraphDeltas_init) 44 = some (.new 24, 47, 1, 0, 0, .null, [(0, 3), (0, 0)]) := rfl
theorem iGraphDeltas_init_47 : ai_find (ai_tab mGraphDeltas_init) 47 = some (.dup, 48, 0, 0, 0, .null, []) := rfl
theorem iGraphDeltas_init_48 : ai_find (ai_tab mGraphDeltas_init) 48 = some (.invokespecial 26, 51, 22, 1, 2, .null, []) := rfl
theorem iGraphDeltas_init_51 : ai_find (ai_tab mGraphDeltas_init) 51 = some (.putfield 31, 54, 0, 6, 3, .null, []) := rfl
theorem iGraphDeltas_init_54 : ai_find (ai_tab mGraphDeltas_init) 54 = some (.aload_n 0, 55, 0, 0, 0, .null, []) := rfl
theorem iGraphDeltas_init_55 : ai_find (ai_tab mGraphDeltas_init) 55 = some (.new 34, 58, 2, 0, 0, .null, [(0, 3), (0, 3), (0, 0), (0, 0), (0, 3)]) := rfl
theorem iGraphDeltas_init_58 : ai_find (ai_tab mGraphDeltas_init) 58 = some (.dup, 59, 0, 0, 0, .null, []) := rfl
theorem iGraphDeltas_init_59 : ai_find (ai_tab mGraphDeltas_init) 59 = some (.invokespecial 36, 62, 50, 1, 2, .null, []) := rfl
theorem iGraphDeltas_init_62 : ai_find (ai_tab mGraphDeltas_init) 62 = some (.putfield 37, 65, 0, 7, 3, .null, []) := rfl
theorem iGraphDeltas_init_65 : ai_find (ai_tab mGraphDeltas_init) 65 = some (.aload_n 0, 66, 0, 0, 0, .null, []) := rfl
theorem iGraphDeltas_init_66 : ai_find (ai_tab mGraphDeltas_init) 66 = some (.new 41, 69, 5, 0, 0, .null, [(0, 3), (0, 3), (0, 3), (0, 0)]) := rfl
theorem iGraphDeltas_init_69 : ai_find (ai_tab mGraphDeltas_init) 69 = some (.dup, 70, 0, 0, 0, .null, []) := rfl
theorem iGraphDeltas_init_70 : ai_find (ai_tab mGraphDeltas_init) 70 = some (.invokespecial 43, 73, 92, 1, 2, .null, []) := rfl
theorem iGraphDeltas_init_73 : ai_find (ai_tab mGraphDeltas_init) 73 = some (.putfield 44, 76, 0, 8, 3, .null, []) := rfl
theorem iGraphDeltas_init_76 : ai_find (ai_tab mGraphDeltas_init) 76 = some (.aload_n 0, 77, 0, 0, 0, .null, []) := rfl
theorem iGraphDeltas_init_77 : ai_find (ai_tab mGraphDeltas_init) 77 = some (.new 48, 80, 3, 0, 0, .null, [(0, 3), (0, 0)]) := rfl
theorem iGraphDeltas_init_80 : ai_find (ai_tab mGraphDeltas_init) 80 = some (.dup, 81, 0, 0, 0, .null, []) := rfl
theorem iGraphDeltas_init_81 : ai_find (ai_tab mGraphDeltas_init) 81 = some (.invokespecial 50, 84, 59, 1, 2, .null, []) := rfl
theorem iGraphDeltas_init_84 : ai_find (ai_tab mGraphDeltas_init) 84 = some (.putfield 51, 87, 0, 9, 3, .null, []) := rfl
theorem iGraphDeltas_init_87 : ai_find (ai_tab mGraphDeltas_init) 87 = some (.aload_n 0, 88, 0, 0, 0, .null, []) := rfl
theorem iGraphDeltas_init_88 : ai_find (ai_tab mGraphDeltas_init) 88 = some (.getfield 9, 91, 0, 0, 0, .null, []) := rfl
theorem iGraphDeltas_init_91 : ai_find (ai_tab mGraphDeltas_init) 91 = some (.iconst (-1), 92, 0, 0, 0, .int (-1), []) := rfl
theorem iGraphDeltas_init_92 : ai_find (ai_tab mGraphDeltas_init) 92 = some (.invokestatic 55, 95, 180, 2, 0, .null, []) := rfl
theorem iGraphDeltas_init_95 : ai_find (ai_tab mGraphDeltas_init) 95 = some (.iconst 0, 96, 0, 0, 0, .int (nI 0), []) := rfl
theorem iGraphDeltas_init_96 : ai_find (ai_tab mGraphDeltas_init) 96 = some (.istore_n 1, 97, 1, 0, 0, .null, []) := rfl
theorem iGraphDeltas_init_97 : ai_find (ai_tab mGraphDeltas_init) 97 = some (.iload_n 1, 98, 1, 0, 0, .null, []) := rfl
theorem iGraphDeltas_init_98 : ai_find (ai_tab mGraphDeltas_init) 98 = some (.bipush 8, 100, 0, 0, 0, .int (nI 8), []) := rfl
theorem iGraphDeltas_init_100 : ai_find (ai_tab mGraphDeltas_init) 100 = some (.if_icmp .ge 22, 103, 122, 0, 0, .null, []) := rfl
theorem iGraphDeltas_init_103 : ai_find (ai_tab mGraphDeltas_init) 103 = some (.aload_n 0, 104, 0, 0, 0, .null, []) := rfl
theorem iGraphDeltas_init_104 : ai_find (ai_tab mGraphDeltas_init) 104 = some (.getfield 20, 107, 0, 3, 0, .null, []) := rfl
theorem iGraphDeltas_init_107 : ai_find (ai_tab mGraphDeltas_init) 107 = some (.iload_n 1, 108, 1, 0, 0, .null, []) := rfl
theorem iGraphDeltas_init_108 : ai_find (ai_tab mGraphDeltas_init) 108 = some (.new 13, 111, 4, 0, 0, .null, [(0, 3), (0, 3), (0, 3), (0, 3)]) := rfl
theorem iGraphDeltas_init_111 : ai_find (ai_tab mGraphDeltas_init) 111 = some (.dup, 112, 0, 0, 0, .null, []) := rfl
theorem iGraphDeltas_init_112 : ai_find (ai_tab mGraphDeltas_init) 112 = some (.invokespecial 15, 115, 70, 1, 2, .null, []) := rfl
theorem iGraphDeltas_init_115 : ai_find (ai_tab mGraphDeltas_init) 115 = some (.aastore, 116, 4, 0, 0, .null, []) := rfl
theorem iGraphDeltas_init_116 : ai_find (ai_tab mGraphDeltas_init) 116 = some (.iinc 1 1, 119, 1, 0, 0, .int (nI 1), []) := rfl
theorem iGraphDeltas_init_119 : ai_find (ai_tab mGraphDeltas_init) 119 = some (.goto (-22), 122, 97, 0, 0, .null, []) := rfl
theorem iGraphDeltas_init_122 : ai_find (ai_tab mGraphDeltas_init) 122 = some (.aload_n 0, 123, 0, 0, 0, .null, []) := rfl
theorem iGraphDeltas_init_123 : ai_find (ai_tab mGraphDeltas_init) 123 = some (.getfield 9, 126, 0, 0, 0, .null, []) := rfl
theorem iGraphDeltas_init_126 : ai_find (ai_tab mGraphDeltas_init) 126 = some (.iconst 0, 127, 0, 0, 0, .int (nI 0), []) := rfl
set_option maxRecDepth 20000 in theorem iGraphDeltas_init_127 : ai_find (ai_tab mGraphDeltas_init) 127 = some (.iconst 0, 128, 0, 0, 0, .int (nI 0), []) := rfl
set_option maxRecDepth 20000 in theorem iGraphDeltas_init_128 : ai_find (ai_tab mGraphDeltas_init) 128 = some (.iastore, 129, 0, 0, 0, .null, []) := rfl
set_option maxRecDepth 20000 in theorem iGraphDeltas_init_129 : ai_find (ai_tab mGraphDeltas_init) 129 = some (.aload_n 0, 130, 0, 0, 0, .null, []) := rfl
set_option maxRecDepth 20000 in theorem iGraphDeltas_init_130 : ai_find (ai_tab mGraphDeltas_init) 130 = some (.iconst 1, 131, 0, 0, 0, .int (nI 1), []) := rfl
set_option maxRecDepth 20000 in theorem iGraphDeltas_init_131 : ai_find (ai_tab mGraphDeltas_init) 131 = some (.putfield 61, 134, 0, 1, 0, .null, []) := rfl
set_option maxRecDepth 20000 in theorem iGraphDeltas_init_134 : ai_find (ai_tab mGraphDeltas_init) 134 = some (.aload_n 0, 135, 0, 0, 0, .null, []) := rfl
set_option maxRecDepth 20000 in theorem iGraphDeltas_init_135 : ai_find (ai_tab mGraphDeltas_init) 135 = some (.getfield 16, 138, 0, 2, 0, .null, []) := rfl
set_option maxRecDepth 20000 in theorem iGraphDeltas_init_138 : ai_find (ai_tab mGraphDeltas_init) 138 = some (.iconst 0, 139, 0, 0, 0, .int (nI 0), []) := rfl
set_option maxRecDepth 20000 in theorem iGraphDeltas_init_139 : ai_find (ai_tab mGraphDeltas_init) 139 = some (.iconst 0, 140, 0, 0, 0, .int (nI 0), []) := rfl
set_option maxRecDepth 20000 in theorem iGraphDeltas_init_140 : ai_find (ai_tab mGraphDeltas_init) 140 = some (.invokevirtual 65, 143, 71, 3, 1, .ref 4, []) := rfl
set_option maxRecDepth 20000 in theorem iGraphDeltas_init_143 : ai_find (ai_tab mGraphDeltas_init) 143 = some (.return_, 144, 0, 0, 0, .null, []) := rfl
theorem iGraphDeltas_apply_0 : ai_find (ai_tab mGraphDeltas_apply) 0 = some (.aload_n 0, 1, 0, 0, 0, .null, []) := rfl
theorem iGraphDeltas_apply_1 : ai_find (ai_tab mGraphDeltas_apply) 1 = some (.iload_n 1, 2, 1, 0, 0, .null, []) := rfl
theorem iGraphDeltas_apply_2 : ai_find (ai_tab mGraphDeltas_apply) 2 = some (.invokevirtual 123, 5, 10, 2, 1, .ref 0, []) := rfl
theorem iGraphDeltas_apply_5 : ai_find (ai_tab mGraphDeltas_apply) 5 = some (.ifCond .ne 5, 8, 10, 0, 0, .null, []) := rfl
theorem iGraphDeltas_apply_8 : ai_find (ai_tab mGraphDeltas_apply) 8 = some (.iconst (-1), 9, 0, 0, 0, .int (-1), []) := rfl
theorem iGraphDeltas_apply_9 : ai_find (ai_tab mGraphDeltas_apply) 9 = some (.ireturn, 10, 0, 0, 0, .null, []) := rfl
theorem iGraphDeltas_apply_10 : ai_find (ai_tab mGraphDeltas_apply) 10 = some (.aload_n 0, 11, 0, 0, 0, .null, []) := rfl
theorem iGraphDeltas_apply_11 : ai_find (ai_tab mGraphDeltas_apply) 11 = some (.getfield 27, 14, 0, 5, 0, .null, []) := rfl
theorem iGraphDeltas_apply_14 : ai_find (ai_tab mGraphDeltas_apply) 14 = some (.aload_n 0, 15, 0, 0, 0, .null, []) := rfl
theorem iGraphDeltas_apply_15 : ai_find (ai_tab mGraphDeltas_apply) 15 = some (.getfield 20, 18, 0, 3, 0, .null, []) := rfl
theorem iGraphDeltas_apply_18 : ai_find (ai_tab mGraphDeltas_apply) 18 = some (.iload_n 1, 19, 1, 0, 0, .null, []) := rfl
theorem iGraphDeltas_apply_19 : ai_find (ai_tab mGraphDeltas_apply) 19 = some (.aaload, 20, 0, 0, 0, .null, []) := rfl
theorem iGraphDeltas_apply_20 : ai_find (ai_tab mGraphDeltas_apply) 20 = some (.aload_n 0, 21, 0, 0, 0, .null, []) := rfl
theorem iGraphDeltas_apply_21 : ai_find (ai_tab mGraphDeltas_apply) 21 = some (.getfield 9, 24, 0, 0, 0, .null, []) := rfl
theorem iGraphDeltas_apply_24 : ai_find (ai_tab mGraphDeltas_apply) 24 = some (.invokestatic 163, 27, 103, 3, 0, .null, []) := rfl
theorem iGraphDeltas_apply_27 : ai_find (ai_tab mGraphDeltas_apply) 27 = some (.ifCond .ne 6, 30, 33, 0, 0, .null, []) := rfl
theorem iGraphDeltas_apply_30 : ai_find (ai_tab mGraphDeltas_apply) 30 = some (.bipush (-3), 32, 0, 0, 0, .int (-3), []) := rfl
theorem iGraphDeltas_apply_32 : ai_find (ai_tab mGraphDeltas_apply) 32 = some (.ireturn, 33, 0, 0, 0, .null, []) := rfl
theorem iGraphDeltas_apply_33 : ai_find (ai_tab mGraphDeltas_apply) 33 = some (.aload_n 0, 34, 0, 0, 0, .null, []) := rfl
theorem iGraphDeltas_apply_34 : ai_find (ai_tab mGraphDeltas_apply) 34 = some (.getfield 113, 37, 0, 4, 0, .null, []) := rfl
theorem iGraphDeltas_apply_37 : ai_find (ai_tab mGraphDeltas_apply) 37 = some (.bipush 8, 39, 0, 0, 0, .int (nI 8), []) := rfl
theorem iGraphDeltas_apply_39 : ai_find (ai_tab mGraphDeltas_apply) 39 = some (.if_icmp .lt 6, 42, 45, 0, 0, .null, []) := rfl
theorem iGraphDeltas_apply_42 : ai_find (ai_tab mGraphDeltas_apply) 42 = some (.bipush (-2), 44, 0, 0, 0, .int (-2), []) := rfl
theorem iGraphDeltas_apply_44 : ai_find (ai_tab mGraphDeltas_apply) 44 = some (.ireturn, 45, 0, 0, 0, .null, []) := rfl
theorem iGraphDeltas_apply_45 : ai_find (ai_tab mGraphDeltas_apply) 45 = some (.aload_n 0, 46, 0, 0, 0, .null, []) := rfl
theorem iGraphDeltas_apply_46 : ai_find (ai_tab mGraphDeltas_apply) 46 = some (.getfield 27, 49, 0, 5, 0, .null, []) := rfl
theorem iGraphDeltas_apply_49 : ai_find (ai_tab mGraphDeltas_apply) 49 = some (.aload_n 0, 50, 0, 0, 0, .null, []) := rfl
theorem iGraphDeltas_apply_50 : ai_find (ai_tab mGraphDeltas_apply) 50 = some (.getfield 20, 53, 0, 3, 0, .null, []) := rfl
theorem iGraphDeltas_apply_53 : ai_find (ai_tab mGraphDeltas_apply) 53 = some (.iload_n 1, 54, 1, 0, 0, .null, []) := rfl
theorem iGraphDeltas_apply_54 : ai_find (ai_tab mGraphDeltas_apply) 54 = some (.aaload, 55, 0, 0, 0, .null, []) := rfl
theorem iGraphDeltas_apply_55 : ai_find (ai_tab mGraphDeltas_apply) 55 = some (.aload_n 0, 56, 0, 0, 0, .null, []) := rfl
theorem iGraphDeltas_apply_56 : ai_find (ai_tab mGraphDeltas_apply) 56 = some (.getfield 20, 59, 0, 3, 0, .null, []) := rfl
theorem iGraphDeltas_apply_59 : ai_find (ai_tab mGraphDeltas_apply) 59 = some (.aload_n 0, 60, 0, 0, 0, .null, []) := rfl
theorem iGraphDeltas_apply_60 : ai_find (ai_tab mGraphDeltas_apply) 60 = some (.getfield 113, 63, 0, 4, 0, .null, []) := rfl
theorem iGraphDeltas_apply_63 : ai_find (ai_tab mGraphDeltas_apply) 63 = some (.aaload, 64, 0, 0, 0, .null, []) := rfl
theorem iGraphDeltas_apply_64 : ai_find (ai_tab mGraphDeltas_apply) 64 = some (.invokestatic 169, 67, 99, 3, 0, .null, []) := rfl
theorem iGraphDeltas_apply_67 : ai_find (ai_tab mGraphDeltas_apply) 67 = some (.aload_n 0, 68, 0, 0, 0, .null, []) := rfl
theorem iGraphDeltas_apply_68 : ai_find (ai_tab mGraphDeltas_apply) 68 = some (.dup, 69, 0, 0, 0, .null, []) := rfl
theorem iGraphDeltas_apply_69 : ai_find (ai_tab mGraphDeltas_apply) 69 = some (.getfield 113, 72, 0, 4, 0, .null, []) := rfl
theorem iGraphDeltas_apply_72 : ai_find (ai_tab mGraphDeltas_apply) 72 = some (.iconst 1, 73, 0, 0, 0, .int (nI 1), []) := rfl
theorem iGraphDeltas_apply_73 : ai_find (ai_tab mGraphDeltas_apply) 73 = some (.iadd, 74, 0, 0, 0, .null, []) := rfl
theorem iGraphDeltas_apply_74 : ai_find (ai_tab mGraphDeltas_apply) 74 = some (.putfield 113, 77, 0, 4, 0, .null, []) := rfl
theorem iGraphDeltas_apply_77 : ai_find (ai_tab mGraphDeltas_apply) 77 = some (.aload_n 0, 78, 0, 0, 0, .null, []) := rfl
theorem iGraphDeltas_apply_78 : ai_find (ai_tab mGraphDeltas_apply) 78 = some (.getfield 113, 81, 0, 4, 0, .null, []) := rfl
theorem iGraphDeltas_apply_81 : ai_find (ai_tab mGraphDeltas_apply) 81 = some (.iconst 1, 82, 0, 0, 0, .int (nI 1), []) := rfl
theorem iGraphDeltas_apply_82 : ai_find (ai_tab mGraphDeltas_apply) 82 = some (.isub, 83, 0, 0, 0, .null, []) := rfl
theorem iGraphDeltas_apply_83 : ai_find (ai_tab mGraphDeltas_apply) 83 = some (.ireturn, 84, 0, 0, 0, .null, []) := rfl
theorem iGraphDeltas_byteAt_0 : ai_find (ai_tab mGraphDeltas_byteAt) 0 = some (.aload_n 0, 1, 0, 0, 0, .null, []) := rfl
theorem iGraphDeltas_byteAt_1 : ai_find (ai_tab mGraphDeltas_byteAt) 1 = some (.getfield 51, 4, 0, 9, 0, .null, []) := rfl
theorem iGraphDeltas_byteAt_4 : ai_find (ai_tab mGraphDeltas_byteAt) 4 = some (.iload_n 1, 5, 1, 0, 0, .null, []) := rfl
theorem iGraphDeltas_byteAt_5 : ai_find (ai_tab mGraphDeltas_byteAt) 5 = some (.invokevirtual 197, 8, 61, 2, 1, .ref 3, []) := rfl
theorem iGraphDeltas_byteAt_8 : ai_find (ai_tab mGraphDeltas_byteAt) 8 = some (.ireturn, 9, 0, 0, 0, .null, []) := rfl
theorem iGraphDeltas_conflict_0 : ai_find (ai_tab mGraphDeltas_conflict) 0 = some (.aload_n 0, 1, 0, 0, 0, .null, []) := rfl
theorem iGraphDeltas_conflict_1 : ai_find (ai_tab mGraphDeltas_conflict) 1 = some (.getfield 44, 4, 0, 8, 0, .null, []) := rfl
theorem iGraphDeltas_conflict_4 : ai_find (ai_tab mGraphDeltas_conflict) 4 = some (.iload_n 1, 5, 1, 0, 0, .null, []) := rfl
theorem iGraphDeltas_conflict_5 : ai_find (ai_tab mGraphDeltas_conflict) 5 = some (.invokevirtual 154, 8, 94, 2, 1, .ref 5, []) := rfl
theorem iGraphDeltas_conflict_8 : ai_find (ai_tab mGraphDeltas_conflict) 8 = some (.ireturn, 9, 0, 0, 0, .null, []) := rfl
theorem iGraphDeltas_cut_0 : ai_find (ai_tab mGraphDeltas_cut) 0 = some (.iload_n 1, 1, 1, 0, 0, .null, []) := rfl
theorem iGraphDeltas_cut_1 : ai_find (ai_tab mGraphDeltas_cut) 1 = some (.ifCond .lt 14, 4, 15, 0, 0, .null, []) := rfl
theorem iGraphDeltas_cut_4 : ai_find (ai_tab mGraphDeltas_cut) 4 = some (.iload_n 1, 5, 1, 0, 0, .null, []) := rfl
theorem iGraphDeltas_cut_5 : ai_find (ai_tab mGraphDeltas_cut) 5 = some (.aload_n 0, 6, 0, 0, 0, .null, []) := rfl
theorem iGraphDeltas_cut_6 : ai_find (ai_tab mGraphDeltas_cut) 6 = some (.getfield 51, 9, 0, 9, 0, .null, []) := rfl
theorem iGraphDeltas_cut_9 : ai_find (ai_tab mGraphDeltas_cut) 9 = some (.invokevirtual 176, 12, 64, 1, 1, .ref 3, []) := rfl
theorem iGraphDeltas_cut_12 : ai_find (ai_tab mGraphDeltas_cut) 12 = some (.if_icmp .le 5, 15, 17, 0, 0, .null, []) := rfl
theorem iGraphDeltas_cut_15 : ai_find (ai_tab mGraphDeltas_cut) 15 = some (.iconst 0, 16, 0, 0, 0, .int (nI 0), []) := rfl
theorem iGraphDeltas_cut_16 : ai_find (ai_tab mGraphDeltas_cut) 16 = some (.ireturn, 17, 1, 0, 0, .null, []) := rfl
theorem iGraphDeltas_cut_17 : ai_find (ai_tab mGraphDeltas_cut) 17 = some (.aload_n 0, 18, 0, 0, 0, .null, []) := rfl
theorem iGraphDeltas_cut_18 : ai_find (ai_tab mGraphDeltas_cut) 18 = some (.getfield 51, 21, 0, 9, 0, .null, []) := rfl
theorem iGraphDeltas_cut_21 : ai_find (ai_tab mGraphDeltas_cut) 21 = some (.iload_n 1, 22, 1, 0, 0, .null, []) := rfl
theorem iGraphDeltas_cut_22 : ai_find (ai_tab mGraphDeltas_cut) 22 = some (.invokevirtual 185, 25, 63, 2, 1, .ref 3, []) := rfl
theorem iGraphDeltas_cut_25 : ai_find (ai_tab mGraphDeltas_cut) 25 = some (.iconst 1, 26, 0, 0, 0, .int (nI 1), []) := rfl
theorem iGraphDeltas_cut_26 : ai_find (ai_tab mGraphDeltas_cut) 26 = some (.ireturn, 27, 1, 0, 0, .null, []) := rfl
theorem iGraphDeltas_decode_0 : ai_find (ai_tab mGraphDeltas_decode) 0 = some (.new 188, 3, 6, 0, 0, .null, [(0, 3), (0, 0)]) := rfl
theorem iGraphDeltas_decode_3 : ai_find (ai_tab mGraphDeltas_decode) 3 = some (.dup, 4, 0, 0, 0, .null, []) := rfl
theorem iGraphDeltas_decode_4 : ai_find (ai_tab mGraphDeltas_decode) 4 = some (.aload_n 0, 5, 0, 0, 0, .null, []) := rfl
theorem iGraphDeltas_decode_5 : ai_find (ai_tab mGraphDeltas_decode) 5 = some (.getfield 51, 8, 0, 9, 0, .null, []) := rfl
theorem iGraphDeltas_decode_8 : ai_find (ai_tab mGraphDeltas_decode) 8 = some (.invokespecial 190, 11, 107, 2, 2, .null, []) := rfl
theorem iGraphDeltas_decode_11 : ai_find (ai_tab mGraphDeltas_decode) 11 = some (.aload_n 0, 12, 0, 0, 0, .null, []) := rfl
theorem iGraphDeltas_decode_12 : ai_find (ai_tab mGraphDeltas_decode) 12 = some (.getfield 31, 15, 0, 6, 0, .null, []) := rfl
theorem iGraphDeltas_decode_15 : ai_find (ai_tab mGraphDeltas_decode) 15 = some (.invokevirtual 193, 18, 110, 2, 1, .ref 6, []) := rfl
theorem iGraphDeltas_decode_18 : ai_find (ai_tab mGraphDeltas_decode) 18 = some (.ifCond .ne 6, 21, 24, 0, 0, .null, []) := rfl
theorem iGraphDeltas_decode_21 : ai_find (ai_tab mGraphDeltas_decode) 21 = some (.bipush (-4), 23, 0, 0, 0, .int (-4), []) := rfl
theorem iGraphDeltas_decode_23 : ai_find (ai_tab mGraphDeltas_decode) 23 = some (.ireturn, 24, 0, 0, 0, .null, []) := rfl
theorem iGraphDeltas_decode_24 : ai_find (ai_tab mGraphDeltas_decode) 24 = some (.aload_n 0, 25, 0, 0, 0, .null, []) := rfl
theorem iGraphDeltas_decode_25 : ai_find (ai_tab mGraphDeltas_decode) 25 = some (.getfield 31, 28, 0, 6, 0, .null, []) := rfl
theorem iGraphDeltas_decode_28 : ai_find (ai_tab mGraphDeltas_decode) 28 = some (.astore_n 1, 29, 1, 0, 0, .null, []) := rfl
theorem iGraphDeltas_decode_29 : ai_find (ai_tab mGraphDeltas_decode) 29 = some (.aload_n 0, 30, 0, 0, 0, .null, []) := rfl
theorem iGraphDeltas_decode_30 : ai_find (ai_tab mGraphDeltas_decode) 30 = some (.aload_n 0, 31, 0, 0, 0, .null, []) := rfl
theorem iGraphDeltas_decode_31 : ai_find (ai_tab mGraphDeltas_decode) 31 = some (.getfield 27, 34, 0, 5, 0, .null, []) := rfl
theorem iGraphDeltas_decode_34 : ai_find (ai_tab mGraphDeltas_decode) 34 = some (.putfield 31, 37, 0, 6, 3, .null, []) := rfl
theorem iGraphDeltas_decode_37 : ai_find (ai_tab mGraphDeltas_decode) 37 = some (.aload_n 0, 38, 0, 0, 0, .null, []) := rfl
theorem iGraphDeltas_decode_38 : ai_find (ai_tab mGraphDeltas_decode) 38 = some (.aload_n 1, 39, 1, 0, 0, .null, []) := rfl
theorem iGraphDeltas_decode_39 : ai_find (ai_tab mGraphDeltas_decode) 39 = some (.putfield 27, 42, 0, 5, 3, .null, []) := rfl
theorem iGraphDeltas_decode_42 : ai_find (ai_tab mGraphDeltas_decode) 42 = some (.aload_n 0, 43, 0, 0, 0, .null, []) := rfl
theorem iGraphDeltas_decode_43 : ai_find (ai_tab mGraphDeltas_decode) 43 = some (.getfield 27, 46, 0, 5, 0, .null, []) := rfl
theorem iGraphDeltas_decode_46 : ai_find (ai_tab mGraphDeltas_decode) 46 = some (.invokevirtual 134, 49, 46, 1, 1, .ref 1, []) := rfl
theorem iGraphDeltas_decode_49 : ai_find (ai_tab mGraphDeltas_decode) 49 = some (.ireturn, 50, 0, 0, 0, .null, []) := rfl
theorem iGraphDeltas_diff_0 : ai_find (ai_tab mGraphDeltas_diff) 0 = some (.aload_n 0, 1, 0, 0, 0, .null, []) := rfl
theorem iGraphDeltas_diff_1 : ai_find (ai_tab mGraphDeltas_diff) 1 = some (.iload_n 1, 2, 1, 0, 0, .null, []) := rfl
theorem iGraphDeltas_diff_2 : ai_find (ai_tab mGraphDeltas_diff) 2 = some (.invokevirtual 123, 5, 10, 2, 1, .ref 0, []) := rfl
theorem iGraphDeltas_diff_5 : ai_find (ai_tab mGraphDeltas_diff) 5 = some (.ifCond .eq 11, 8, 16, 0, 0, .null, []) := rfl
theorem iGraphDeltas_diff_8 : ai_find (ai_tab mGraphDeltas_diff) 8 = some (.aload_n 0, 9, 0, 0, 0, .null, []) := rfl
theorem iGraphDeltas_diff_9 : ai_find (ai_tab mGraphDeltas_diff) 9 = some (.iload_n 2, 10, 2, 0, 0, .null, []) := rfl
theorem iGraphDeltas_diff_10 : ai_find (ai_tab mGraphDeltas_diff) 10 = some (.invokevirtual 123, 13, 10, 2, 1, .ref 0, []) := rfl
theorem iGraphDeltas_diff_13 : ai_find (ai_tab mGraphDeltas_diff) 13 = some (.ifCond .ne 5, 16, 18, 0, 0, .null, []) := rfl
theorem iGraphDeltas_diff_16 : ai_find (ai_tab mGraphDeltas_diff) 16 = some (.iconst (-1), 17, 0, 0, 0, .int (-1), []) := rfl
theorem iGraphDeltas_diff_17 : ai_find (ai_tab mGraphDeltas_diff) 17 = some (.ireturn, 18, 0, 0, 0, .null, []) := rfl
theorem iGraphDeltas_diff_18 : ai_find (ai_tab mGraphDeltas_diff) 18 = some (.aload_n 0, 19, 0, 0, 0, .null, []) := rfl
theorem iGraphDeltas_diff_19 : ai_find (ai_tab mGraphDeltas_diff) 19 = some (.getfield 37, 22, 0, 7, 0, .null, []) := rfl
theorem iGraphDeltas_diff_22 : ai_find (ai_tab mGraphDeltas_diff) 22 = some (.aload_n 0, 23, 0, 0, 0, .null, []) := rfl
theorem iGraphDeltas_diff_23 : ai_find (ai_tab mGraphDeltas_diff) 23 = some (.getfield 20, 26, 0, 3, 0, .null, []) := rfl
theorem iGraphDeltas_diff_26 : ai_find (ai_tab mGraphDeltas_diff) 26 = some (.iload_n 1, 27, 1, 0, 0, .null, []) := rfl
theorem iGraphDeltas_diff_27 : ai_find (ai_tab mGraphDeltas_diff) 27 = some (.aaload, 28, 0, 0, 0, .null, []) := rfl
theorem iGraphDeltas_diff_28 : ai_find (ai_tab mGraphDeltas_diff) 28 = some (.aload_n 0, 29, 0, 0, 0, .null, []) := rfl
theorem iGraphDeltas_diff_29 : ai_find (ai_tab mGraphDeltas_diff) 29 = some (.getfield 20, 32, 0, 3, 0, .null, []) := rfl
theorem iGraphDeltas_diff_32 : ai_find (ai_tab mGraphDeltas_diff) 32 = some (.iload_n 2, 33, 2, 0, 0, .null, []) := rfl
theorem iGraphDeltas_diff_33 : ai_find (ai_tab mGraphDeltas_diff) 33 = some (.aaload, 34, 0, 0, 0, .null, []) := rfl
theorem iGraphDeltas_diff_34 : ai_find (ai_tab mGraphDeltas_diff) 34 = some (.aload_n 0, 35, 0, 0, 0, .null, []) := rfl
theorem iGraphDeltas_diff_35 : ai_find (ai_tab mGraphDeltas_diff) 35 = some (.getfield 27, 38, 0, 5, 0, .null, []) := rfl
theorem iGraphDeltas_diff_38 : ai_find (ai_tab mGraphDeltas_diff) 38 = some (.invokevirtual 130, 41, 55, 4, 1, .ref 2, []) := rfl
theorem iGraphDeltas_diff_41 : ai_find (ai_tab mGraphDeltas_diff) 41 = some (.aload_n 0, 42, 0, 0, 0, .null, []) := rfl
theorem iGraphDeltas_diff_42 : ai_find (ai_tab mGraphDeltas_diff) 42 = some (.getfield 27, 45, 0, 5, 0, .null, []) := rfl
theorem iGraphDeltas_diff_45 : ai_find (ai_tab mGraphDeltas_diff) 45 = some (.invokevirtual 134, 48, 46, 1, 1, .ref 1, []) := rfl
theorem iGraphDeltas_diff_48 : ai_find (ai_tab mGraphDeltas_diff) 48 = some (.ireturn, 49, 0, 0, 0, .null, []) := rfl
theorem iGraphDeltas_encode_0 : ai_find (ai_tab mGraphDeltas_encode) 0 = some (.aload_n 0, 1, 0, 0, 0, .null, []) := rfl
theorem iGraphDeltas_encode_1 : ai_find (ai_tab mGraphDeltas_encode) 1 = some (.getfield 51, 4, 0, 9, 0, .null, []) := rfl
theorem iGraphDeltas_encode_4 : ai_find (ai_tab mGraphDeltas_encode) 4 = some (.aload_n 0, 5, 0, 0, 0, .null, []) := rfl
theorem iGraphDeltas_encode_5 : ai_find (ai_tab mGraphDeltas_encode) 5 = some (.getfield 27, 8, 0, 5, 0, .null, []) := rfl
theorem iGraphDeltas_encode_8 : ai_find (ai_tab mGraphDeltas_encode) 8 = some (.invokevirtual 173, 11, 66, 2, 1, .ref 3, []) := rfl
theorem iGraphDeltas_encode_11 : ai_find (ai_tab mGraphDeltas_encode) 11 = some (.aload_n 0, 12, 0, 0, 0, .null, []) := rfl
theorem iGraphDeltas_encode_12 : ai_find (ai_tab mGraphDeltas_encode) 12 = some (.getfield 51, 15, 0, 9, 0, .null, []) := rfl
theorem iGraphDeltas_encode_15 : ai_find (ai_tab mGraphDeltas_encode) 15 = some (.invokevirtual 176, 18, 64, 1, 1, .ref 3, []) := rfl
theorem iGraphDeltas_encode_18 : ai_find (ai_tab mGraphDeltas_encode) 18 = some (.ireturn, 19, 0, 0, 0, .null, []) := rfl
theorem iGraphDeltas_feed_0 : ai_find (ai_tab mGraphDeltas_feed) 0 = some (.iload_n 1, 1, 1, 0, 0, .null, []) := rfl
theorem iGraphDeltas_feed_1 : ai_find (ai_tab mGraphDeltas_feed) 1 = some (.ifCond .lt 20, 4, 21, 0, 0, .null, []) := rfl
theorem iGraphDeltas_feed_4 : ai_find (ai_tab mGraphDeltas_feed) 4 = some (.iload_n 1, 5, 1, 0, 0, .null, []) := rfl
theorem iGraphDeltas_feed_5 : ai_find (ai_tab mGraphDeltas_feed) 5 = some (.sipush 255, 8, 0, 0, 0, .int (nI 255), []) := rfl
theorem iGraphDeltas_feed_8 : ai_find (ai_tab mGraphDeltas_feed) 8 = some (.if_icmp .gt 13, 11, 21, 0, 0, .null, []) := rfl
theorem iGraphDeltas_feed_11 : ai_find (ai_tab mGraphDeltas_feed) 11 = some (.aload_n 0, 12, 0, 0, 0, .null, []) := rfl
theorem iGraphDeltas_feed_12 : ai_find (ai_tab mGraphDeltas_feed) 12 = some (.getfield 51, 15, 0, 9, 0, .null, []) := rfl
theorem iGraphDeltas_feed_15 : ai_find (ai_tab mGraphDeltas_feed) 15 = some (.invokevirtual 177, 18, 62, 1, 1, .ref 3, []) := rfl
theorem iGraphDeltas_feed_18 : ai_find (ai_tab mGraphDeltas_feed) 18 = some (.ifCond .eq 5, 21, 23, 0, 0, .null, []) := rfl
theorem iGraphDeltas_feed_21 : ai_find (ai_tab mGraphDeltas_feed) 21 = some (.iconst 0, 22, 0, 0, 0, .int (nI 0), []) := rfl
theorem iGraphDeltas_feed_22 : ai_find (ai_tab mGraphDeltas_feed) 22 = some (.ireturn, 23, 1, 0, 0, .null, []) := rfl
theorem iGraphDeltas_feed_23 : ai_find (ai_tab mGraphDeltas_feed) 23 = some (.aload_n 0, 24, 0, 0, 0, .null, []) := rfl
theorem iGraphDeltas_feed_24 : ai_find (ai_tab mGraphDeltas_feed) 24 = some (.getfield 51, 27, 0, 9, 0, .null, []) := rfl
theorem iGraphDeltas_feed_27 : ai_find (ai_tab mGraphDeltas_feed) 27 = some (.iload_n 1, 28, 1, 0, 0, .null, []) := rfl
theorem iGraphDeltas_feed_28 : ai_find (ai_tab mGraphDeltas_feed) 28 = some (.invokevirtual 181, 31, 60, 2, 1, .ref 3, []) := rfl
theorem iGraphDeltas_feed_31 : ai_find (ai_tab mGraphDeltas_feed) 31 = some (.iconst 1, 32, 0, 0, 0, .int (nI 1), []) := rfl
theorem iGraphDeltas_feed_32 : ai_find (ai_tab mGraphDeltas_feed) 32 = some (.ireturn, 33, 1, 0, 0, .null, []) := rfl
theorem iGraphDeltas_insert_0 : ai_find (ai_tab mGraphDeltas_insert) 0 = some (.aload_n 0, 1, 0, 0, 0, .null, []) := rfl
theorem iGraphDeltas_insert_1 : ai_find (ai_tab mGraphDeltas_insert) 1 = some (.getfield 16, 4, 0, 2, 0, .null, []) := rfl
theorem iGraphDeltas_insert_4 : ai_find (ai_tab mGraphDeltas_insert) 4 = some (.iload_n 1, 5, 1, 0, 0, .null, []) := rfl
theorem iGraphDeltas_insert_5 : ai_find (ai_tab mGraphDeltas_insert) 5 = some (.invokevirtual 80, 8, 83, 2, 1, .ref 4, []) := rfl
theorem iGraphDeltas_insert_8 : ai_find (ai_tab mGraphDeltas_insert) 8 = some (.ifCond .eq 32, 11, 40, 0, 0, .null, []) := rfl
theorem iGraphDeltas_insert_11 : ai_find (ai_tab mGraphDeltas_insert) 11 = some (.aload_n 0, 12, 0, 0, 0, .null, []) := rfl
theorem iGraphDeltas_insert_12 : ai_find (ai_tab mGraphDeltas_insert) 12 = some (.getfield 16, 15, 0, 2, 0, .null, []) := rfl
theorem iGraphDeltas_insert_15 : ai_find (ai_tab mGraphDeltas_insert) 15 = some (.iload_n 1, 16, 1, 0, 0, .null, []) := rfl
theorem iGraphDeltas_insert_16 : ai_find (ai_tab mGraphDeltas_insert) 16 = some (.invokevirtual 83, 19, 85, 2, 1, .ref 4, []) := rfl
theorem iGraphDeltas_insert_19 : ai_find (ai_tab mGraphDeltas_insert) 19 = some (.bipush 6, 21, 0, 0, 0, .int (nI 6), []) := rfl
theorem iGraphDeltas_insert_21 : ai_find (ai_tab mGraphDeltas_insert) 21 = some (.if_icmp .ge 19, 24, 40, 0, 0, .null, []) := rfl
theorem iGraphDeltas_insert_24 : ai_find (ai_tab mGraphDeltas_insert) 24 = some (.iload_n 2, 25, 2, 0, 0, .null, []) := rfl
theorem iGraphDeltas_insert_25 : ai_find (ai_tab mGraphDeltas_insert) 25 = some (.ifCond .lt 15, 28, 40, 0, 0, .null, []) := rfl
theorem iGraphDeltas_insert_28 : ai_find (ai_tab mGraphDeltas_insert) 28 = some (.iload_n 2, 29, 2, 0, 0, .null, []) := rfl
theorem iGraphDeltas_insert_29 : ai_find (ai_tab mGraphDeltas_insert) 29 = some (.aload_n 0, 30, 0, 0, 0, .null, []) := rfl
theorem iGraphDeltas_insert_30 : ai_find (ai_tab mGraphDeltas_insert) 30 = some (.getfield 16, 33, 0, 2, 0, .null, []) := rfl
theorem iGraphDeltas_insert_33 : ai_find (ai_tab mGraphDeltas_insert) 33 = some (.iload_n 1, 34, 1, 0, 0, .null, []) := rfl
theorem iGraphDeltas_insert_34 : ai_find (ai_tab mGraphDeltas_insert) 34 = some (.invokevirtual 83, 37, 85, 2, 1, .ref 4, []) := rfl
theorem iGraphDeltas_insert_37 : ai_find (ai_tab mGraphDeltas_insert) 37 = some (.if_icmp .le 5, 40, 42, 0, 0, .null, []) := rfl
theorem iGraphDeltas_insert_40 : ai_find (ai_tab mGraphDeltas_insert) 40 = some (.iconst 0, 41, 0, 0, 0, .int (nI 0), []) := rfl
theorem iGraphDeltas_insert_41 : ai_find (ai_tab mGraphDeltas_insert) 41 = some (.ireturn, 42, 1, 0, 0, .null, []) := rfl
theorem iGraphDeltas_insert_42 : ai_find (ai_tab mGraphDeltas_insert) 42 = some (.aload_n 0, 43, 0, 0, 0, .null, []) := rfl
theorem iGraphDeltas_insert_43 : ai_find (ai_tab mGraphDeltas_insert) 43 = some (.getfield 16, 46, 0, 2, 0, .null, []) := rfl
theorem iGraphDeltas_insert_46 : ai_find (ai_tab mGraphDeltas_insert) 46 = some (.iload_n 1, 47, 1, 0, 0, .null, []) := rfl
theorem iGraphDeltas_insert_47 : ai_find (ai_tab mGraphDeltas_insert) 47 = some (.iload_n 2, 48, 2, 0, 0, .null, []) := rfl
theorem iGraphDeltas_insert_48 : ai_find (ai_tab mGraphDeltas_insert) 48 = some (.iload_n 3, 49, 3, 0, 0, .null, []) := rfl
theorem iGraphDeltas_insert_49 : ai_find (ai_tab mGraphDeltas_insert) 49 = some (.invokevirtual 87, 52, 87, 4, 1, .ref 4, []) := rfl
theorem iGraphDeltas_insert_52 : ai_find (ai_tab mGraphDeltas_insert) 52 = some (.iconst 1, 53, 0, 0, 0, .int (nI 1), []) := rfl
theorem iGraphDeltas_insert_53 : ai_find (ai_tab mGraphDeltas_insert) 53 = some (.ireturn, 54, 1, 0, 0, .null, []) := rfl
theorem iGraphDeltas_isVersion_0 : ai_find (ai_tab mGraphDeltas_isVersion) 0 = some (.iload_n 1, 1, 1, 0, 0, .null, []) := rfl
theorem iGraphDeltas_isVersion_1 : ai_find (ai_tab mGraphDeltas_isVersion) 1 = some (.ifCond .lt 15, 4, 16, 0, 0, .null, []) := rfl
theorem iGraphDeltas_isVersion_4 : ai_find (ai_tab mGraphDeltas_isVersion) 4 = some (.iload_n 1, 5, 1, 0, 0, .null, []) := rfl
theorem iGraphDeltas_isVersion_5 : ai_find (ai_tab mGraphDeltas_isVersion) 5 = some (.aload_n 0, 6, 0, 0, 0, .null, []) := rfl
theorem iGraphDeltas_isVersion_6 : ai_find (ai_tab mGraphDeltas_isVersion) 6 = some (.getfield 113, 9, 0, 4, 0, .null, []) := rfl
theorem iGraphDeltas_isVersion_9 : ai_find (ai_tab mGraphDeltas_isVersion) 9 = some (.if_icmp .ge 7, 12, 16, 0, 0, .null, []) := rfl
theorem iGraphDeltas_isVersion_12 : ai_find (ai_tab mGraphDeltas_isVersion) 12 = some (.iconst 1, 13, 0, 0, 0, .int (nI 1), []) := rfl
theorem iGraphDeltas_isVersion_13 : ai_find (ai_tab mGraphDeltas_isVersion) 13 = some (.goto 4, 16, 17, 0, 0, .null, []) := rfl
theorem iGraphDeltas_isVersion_16 : ai_find (ai_tab mGraphDeltas_isVersion) 16 = some (.iconst 0, 17, 0, 0, 0, .int (nI 0), []) := rfl
theorem iGraphDeltas_isVersion_17 : ai_find (ai_tab mGraphDeltas_isVersion) 17 = some (.ireturn, 18, 1, 0, 0, .null, []) := rfl
theorem iGraphDeltas_kind_0 : ai_find (ai_tab mGraphDeltas_kind) 0 = some (.aload_n 0, 1, 0, 0, 0, .null, []) := rfl
theorem iGraphDeltas_kind_1 : ai_find (ai_tab mGraphDeltas_kind) 1 = some (.getfield 16, 4, 0, 2, 0, .null, []) := rfl
theorem iGraphDeltas_kind_4 : ai_find (ai_tab mGraphDeltas_kind) 4 = some (.iload_n 1, 5, 1, 0, 0, .null, []) := rfl
theorem iGraphDeltas_kind_5 : ai_find (ai_tab mGraphDeltas_kind) 5 = some (.invokevirtual 76, 8, 80, 2, 1, .ref 4, []) := rfl
theorem iGraphDeltas_kind_8 : ai_find (ai_tab mGraphDeltas_kind) 8 = some (.ifCond .ne 5, 11, 13, 0, 0, .null, []) := rfl
theorem iGraphDeltas_kind_11 : ai_find (ai_tab mGraphDeltas_kind) 11 = some (.iconst (-1), 12, 0, 0, 0, .int (-1), []) := rfl
theorem iGraphDeltas_kind_12 : ai_find (ai_tab mGraphDeltas_kind) 12 = some (.ireturn, 13, 0, 0, 0, .null, []) := rfl
theorem iGraphDeltas_kind_13 : ai_find (ai_tab mGraphDeltas_kind) 13 = some (.aload_n 0, 14, 0, 0, 0, .null, []) := rfl
theorem iGraphDeltas_kind_14 : ai_find (ai_tab mGraphDeltas_kind) 14 = some (.getfield 16, 17, 0, 2, 0, .null, []) := rfl
theorem iGraphDeltas_kind_17 : ai_find (ai_tab mGraphDeltas_kind) 17 = some (.iload_n 1, 18, 1, 0, 0, .null, []) := rfl
theorem iGraphDeltas_kind_18 : ai_find (ai_tab mGraphDeltas_kind) 18 = some (.invokevirtual 80, 21, 83, 2, 1, .ref 4, []) := rfl
theorem iGraphDeltas_kind_21 : ai_find (ai_tab mGraphDeltas_kind) 21 = some (.ifCond .eq 16, 24, 37, 0, 0, .null, []) := rfl
theorem iGraphDeltas_kind_24 : ai_find (ai_tab mGraphDeltas_kind) 24 = some (.iconst 1, 25, 0, 0, 0, .int (nI 1), []) := rfl
theorem iGraphDeltas_kind_25 : ai_find (ai_tab mGraphDeltas_kind) 25 = some (.aload_n 0, 26, 0, 0, 0, .null, []) := rfl
theorem iGraphDeltas_kind_26 : ai_find (ai_tab mGraphDeltas_kind) 26 = some (.getfield 16, 29, 0, 2, 0, .null, []) := rfl
theorem iGraphDeltas_kind_29 : ai_find (ai_tab mGraphDeltas_kind) 29 = some (.iload_n 1, 30, 1, 0, 0, .null, []) := rfl
theorem iGraphDeltas_kind_30 : ai_find (ai_tab mGraphDeltas_kind) 30 = some (.invokevirtual 83, 33, 85, 2, 1, .ref 4, []) := rfl
theorem iGraphDeltas_kind_33 : ai_find (ai_tab mGraphDeltas_kind) 33 = some (.iadd, 34, 0, 0, 0, .null, []) := rfl
theorem iGraphDeltas_kind_34 : ai_find (ai_tab mGraphDeltas_kind) 34 = some (.goto 4, 37, 38, 0, 0, .null, []) := rfl
theorem iGraphDeltas_kind_37 : ai_find (ai_tab mGraphDeltas_kind) 37 = some (.iconst 0, 38, 0, 0, 0, .int (nI 0), []) := rfl
theorem iGraphDeltas_kind_38 : ai_find (ai_tab mGraphDeltas_kind) 38 = some (.ireturn, 39, 0, 0, 0, .null, []) := rfl
theorem iGraphDeltas_link_0 : ai_find (ai_tab mGraphDeltas_link) 0 = some (.aload_n 0, 1, 0, 0, 0, .null, []) := rfl
theorem iGraphDeltas_link_1 : ai_find (ai_tab mGraphDeltas_link) 1 = some (.getfield 16, 4, 0, 2, 0, .null, []) := rfl
theorem iGraphDeltas_link_4 : ai_find (ai_tab mGraphDeltas_link) 4 = some (.iload_n 1, 5, 1, 0, 0, .null, []) := rfl
theorem iGraphDeltas_link_5 : ai_find (ai_tab mGraphDeltas_link) 5 = some (.iload_n 2, 6, 2, 0, 0, .null, []) := rfl
theorem iGraphDeltas_link_6 : ai_find (ai_tab mGraphDeltas_link) 6 = some (.invokevirtual 69, 9, 82, 3, 1, .ref 4, []) := rfl
theorem iGraphDeltas_link_9 : ai_find (ai_tab mGraphDeltas_link) 9 = some (.ifCond .ne 5, 12, 14, 0, 0, .null, []) := rfl
theorem iGraphDeltas_link_12 : ai_find (ai_tab mGraphDeltas_link) 12 = some (.iconst 0, 13, 0, 0, 0, .int (nI 0), []) := rfl
theorem iGraphDeltas_link_13 : ai_find (ai_tab mGraphDeltas_link) 13 = some (.ireturn, 14, 1, 0, 0, .null, []) := rfl
theorem iGraphDeltas_link_14 : ai_find (ai_tab mGraphDeltas_link) 14 = some (.iload_n 3, 15, 3, 0, 0, .null, []) := rfl
theorem iGraphDeltas_link_15 : ai_find (ai_tab mGraphDeltas_link) 15 = some (.iconst (-1), 16, 0, 0, 0, .int (-1), []) := rfl
theorem iGraphDeltas_link_16 : ai_find (ai_tab mGraphDeltas_link) 16 = some (.if_icmp .ne 16, 19, 32, 0, 0, .null, []) := rfl
theorem iGraphDeltas_link_19 : ai_find (ai_tab mGraphDeltas_link) 19 = some (.aload_n 0, 20, 0, 0, 0, .null, []) := rfl
theorem iGraphDeltas_link_20 : ai_find (ai_tab mGraphDeltas_link) 20 = some (.getfield 16, 23, 0, 2, 0, .null, []) := rfl
theorem iGraphDeltas_link_23 : ai_find (ai_tab mGraphDeltas_link) 23 = some (.iload_n 1, 24, 1, 0, 0, .null, []) := rfl
theorem iGraphDeltas_link_24 : ai_find (ai_tab mGraphDeltas_link) 24 = some (.iload_n 2, 25, 2, 0, 0, .null, []) := rfl
theorem iGraphDeltas_link_25 : ai_find (ai_tab mGraphDeltas_link) 25 = some (.iconst 0, 26, 0, 0, 0, .int (nI 0), []) := rfl
theorem iGraphDeltas_link_26 : ai_find (ai_tab mGraphDeltas_link) 26 = some (.iconst 0, 27, 0, 0, 0, .int (nI 0), []) := rfl
theorem iGraphDeltas_link_27 : ai_find (ai_tab mGraphDeltas_link) 27 = some (.invokevirtual 73, 30, 78, 5, 1, .ref 4, []) := rfl
theorem iGraphDeltas_link_30 : ai_find (ai_tab mGraphDeltas_link) 30 = some (.iconst 1, 31, 0, 0, 0, .int (nI 1), []) := rfl
theorem iGraphDeltas_link_31 : ai_find (ai_tab mGraphDeltas_link) 31 = some (.ireturn, 32, 1, 0, 0, .null, []) := rfl
theorem iGraphDeltas_link_32 : ai_find (ai_tab mGraphDeltas_link) 32 = some (.aload_n 0, 33, 0, 0, 0, .null, []) := rfl
theorem iGraphDeltas_link_33 : ai_find (ai_tab mGraphDeltas_link) 33 = some (.getfield 16, 36, 0, 2, 0, .null, []) := rfl
theorem iGraphDeltas_link_36 : ai_find (ai_tab mGraphDeltas_link) 36 = some (.iload_n 3, 37, 3, 0, 0, .null, []) := rfl
theorem iGraphDeltas_link_37 : ai_find (ai_tab mGraphDeltas_link) 37 = some (.invokevirtual 76, 40, 80, 2, 1, .ref 4, []) := rfl
theorem iGraphDeltas_link_40 : ai_find (ai_tab mGraphDeltas_link) 40 = some (.ifCond .ne 5, 43, 45, 0, 0, .null, []) := rfl
theorem iGraphDeltas_link_43 : ai_find (ai_tab mGraphDeltas_link) 43 = some (.iconst 0, 44, 0, 0, 0, .int (nI 0), []) := rfl
theorem iGraphDeltas_link_44 : ai_find (ai_tab mGraphDeltas_link) 44 = some (.ireturn, 45, 1, 0, 0, .null, []) := rfl
theorem iGraphDeltas_link_45 : ai_find (ai_tab mGraphDeltas_link) 45 = some (.aload_n 0, 46, 0, 0, 0, .null, []) := rfl
theorem iGraphDeltas_link_46 : ai_find (ai_tab mGraphDeltas_link) 46 = some (.getfield 16, 49, 0, 2, 0, .null, []) := rfl
theorem iGraphDeltas_link_49 : ai_find (ai_tab mGraphDeltas_link) 49 = some (.iload_n 1, 50, 1, 0, 0, .null, []) := rfl
theorem iGraphDeltas_link_50 : ai_find (ai_tab mGraphDeltas_link) 50 = some (.iload_n 2, 51, 2, 0, 0, .null, []) := rfl
theorem iGraphDeltas_link_51 : ai_find (ai_tab mGraphDeltas_link) 51 = some (.iconst 2, 52, 0, 0, 0, .int (nI 2), []) := rfl
theorem iGraphDeltas_link_52 : ai_find (ai_tab mGraphDeltas_link) 52 = some (.iload_n 3, 53, 3, 0, 0, .null, []) := rfl
theorem iGraphDeltas_link_53 : ai_find (ai_tab mGraphDeltas_link) 53 = some (.invokevirtual 73, 56, 78, 5, 1, .ref 4, []) := rfl
theorem iGraphDeltas_link_56 : ai_find (ai_tab mGraphDeltas_link) 56 = some (.iconst 1, 57, 0, 0, 0, .int (nI 1), []) := rfl
theorem iGraphDeltas_link_57 : ai_find (ai_tab mGraphDeltas_link) 57 = some (.ireturn, 58, 1, 0, 0, .null, []) := rfl
theorem iGraphDeltas_merge_0 : ai_find (ai_tab mGraphDeltas_merge) 0 = some (.aload_n 0, 1, 0, 0, 0, .null, []) := rfl
theorem iGraphDeltas_merge_1 : ai_find (ai_tab mGraphDeltas_merge) 1 = some (.iload_n 1, 2, 1, 0, 0, .null, []) := rfl
theorem iGraphDeltas_merge_2 : ai_find (ai_tab mGraphDeltas_merge) 2 = some (.invokevirtual 123, 5, 10, 2, 1, .ref 0, []) := rfl
theorem iGraphDeltas_merge_5 : ai_find (ai_tab mGraphDeltas_merge) 5 = some (.ifCond .eq 19, 8, 24, 0, 0, .null, []) := rfl
theorem iGraphDeltas_merge_8 : ai_find (ai_tab mGraphDeltas_merge) 8 = some (.aload_n 0, 9, 0, 0, 0, .null, []) := rfl
theorem iGraphDeltas_merge_9 : ai_find (ai_tab mGraphDeltas_merge) 9 = some (.iload_n 2, 10, 2, 0, 0, .null, []) := rfl
theorem iGraphDeltas_merge_10 : ai_find (ai_tab mGraphDeltas_merge) 10 = some (.invokevirtual 123, 13, 10, 2, 1, .ref 0, []) := rfl
theorem iGraphDeltas_merge_13 : ai_find (ai_tab mGraphDeltas_merge) 13 = some (.ifCond .eq 11, 16, 24, 0, 0, .null, []) := rfl
theorem iGraphDeltas_merge_16 : ai_find (ai_tab mGraphDeltas_merge) 16 = some (.aload_n 0, 17, 0, 0, 0, .null, []) := rfl
theorem iGraphDeltas_merge_17 : ai_find (ai_tab mGraphDeltas_merge) 17 = some (.iload_n 3, 18, 3, 0, 0, .null, []) := rfl
theorem iGraphDeltas_merge_18 : ai_find (ai_tab mGraphDeltas_merge) 18 = some (.invokevirtual 123, 21, 10, 2, 1, .ref 0, []) := rfl
theorem iGraphDeltas_merge_21 : ai_find (ai_tab mGraphDeltas_merge) 21 = some (.ifCond .ne 5, 24, 26, 0, 0, .null, []) := rfl
theorem iGraphDeltas_merge_24 : ai_find (ai_tab mGraphDeltas_merge) 24 = some (.iconst (-1), 25, 0, 0, 0, .int (-1), []) := rfl
theorem iGraphDeltas_merge_25 : ai_find (ai_tab mGraphDeltas_merge) 25 = some (.ireturn, 26, 0, 0, 0, .null, []) := rfl
theorem iGraphDeltas_merge_26 : ai_find (ai_tab mGraphDeltas_merge) 26 = some (.aload_n 0, 27, 0, 0, 0, .null, []) := rfl
theorem iGraphDeltas_merge_27 : ai_find (ai_tab mGraphDeltas_merge) 27 = some (.getfield 37, 30, 0, 7, 0, .null, []) := rfl
theorem iGraphDeltas_merge_30 : ai_find (ai_tab mGraphDeltas_merge) 30 = some (.aload_n 0, 31, 0, 0, 0, .null, []) := rfl
theorem iGraphDeltas_merge_31 : ai_find (ai_tab mGraphDeltas_merge) 31 = some (.getfield 20, 34, 0, 3, 0, .null, []) := rfl
theorem iGraphDeltas_merge_34 : ai_find (ai_tab mGraphDeltas_merge) 34 = some (.iload_n 1, 35, 1, 0, 0, .null, []) := rfl
theorem iGraphDeltas_merge_35 : ai_find (ai_tab mGraphDeltas_merge) 35 = some (.aaload, 36, 0, 0, 0, .null, []) := rfl
theorem iGraphDeltas_merge_36 : ai_find (ai_tab mGraphDeltas_merge) 36 = some (.aload_n 0, 37, 0, 0, 0, .null, []) := rfl
theorem iGraphDeltas_merge_37 : ai_find (ai_tab mGraphDeltas_merge) 37 = some (.getfield 20, 40, 0, 3, 0, .null, []) := rfl
theorem iGraphDeltas_merge_40 : ai_find (ai_tab mGraphDeltas_merge) 40 = some (.iload_n 2, 41, 2, 0, 0, .null, []) := rfl
theorem iGraphDeltas_merge_41 : ai_find (ai_tab mGraphDeltas_merge) 41 = some (.aaload, 42, 0, 0, 0, .null, []) := rfl
theorem iGraphDeltas_merge_42 : ai_find (ai_tab mGraphDeltas_merge) 42 = some (.aload_n 0, 43, 0, 0, 0, .null, []) := rfl
theorem iGraphDeltas_merge_43 : ai_find (ai_tab mGraphDeltas_merge) 43 = some (.getfield 44, 46, 0, 8, 0, .null, []) := rfl
theorem iGraphDeltas_merge_46 : ai_find (ai_tab mGraphDeltas_merge) 46 = some (.getfield 138, 49, 5, 0, 0, .null, []) := rfl
theorem iGraphDeltas_merge_49 : ai_find (ai_tab mGraphDeltas_merge) 49 = some (.invokevirtual 130, 52, 55, 4, 1, .ref 2, []) := rfl
theorem iGraphDeltas_merge_52 : ai_find (ai_tab mGraphDeltas_merge) 52 = some (.aload_n 0, 53, 0, 0, 0, .null, []) := rfl
theorem iGraphDeltas_merge_53 : ai_find (ai_tab mGraphDeltas_merge) 53 = some (.getfield 37, 56, 0, 7, 0, .null, []) := rfl
theorem iGraphDeltas_merge_56 : ai_find (ai_tab mGraphDeltas_merge) 56 = some (.aload_n 0, 57, 0, 0, 0, .null, []) := rfl
theorem iGraphDeltas_merge_57 : ai_find (ai_tab mGraphDeltas_merge) 57 = some (.getfield 20, 60, 0, 3, 0, .null, []) := rfl
theorem iGraphDeltas_merge_60 : ai_find (ai_tab mGraphDeltas_merge) 60 = some (.iload_n 1, 61, 1, 0, 0, .null, []) := rfl
theorem iGraphDeltas_merge_61 : ai_find (ai_tab mGraphDeltas_merge) 61 = some (.aaload, 62, 0, 0, 0, .null, []) := rfl
theorem iGraphDeltas_merge_62 : ai_find (ai_tab mGraphDeltas_merge) 62 = some (.aload_n 0, 63, 0, 0, 0, .null, []) := rfl
theorem iGraphDeltas_merge_63 : ai_find (ai_tab mGraphDeltas_merge) 63 = some (.getfield 20, 66, 0, 3, 0, .null, []) := rfl
theorem iGraphDeltas_merge_66 : ai_find (ai_tab mGraphDeltas_merge) 66 = some (.iload_n 3, 67, 3, 0, 0, .null, []) := rfl
theorem iGraphDeltas_merge_67 : ai_find (ai_tab mGraphDeltas_merge) 67 = some (.aaload, 68, 0, 0, 0, .null, []) := rfl
theorem iGraphDeltas_merge_68 : ai_find (ai_tab mGraphDeltas_merge) 68 = some (.aload_n 0, 69, 0, 0, 0, .null, []) := rfl
theorem iGraphDeltas_merge_69 : ai_find (ai_tab mGraphDeltas_merge) 69 = some (.getfield 44, 72, 0, 8, 0, .null, []) := rfl
theorem iGraphDeltas_merge_72 : ai_find (ai_tab mGraphDeltas_merge) 72 = some (.getfield 141, 75, 5, 1, 0, .null, []) := rfl
theorem iGraphDeltas_merge_75 : ai_find (ai_tab mGraphDeltas_merge) 75 = some (.invokevirtual 130, 78, 55, 4, 1, .ref 2, []) := rfl
theorem iGraphDeltas_merge_78 : ai_find (ai_tab mGraphDeltas_merge) 78 = some (.aload_n 0, 79, 0, 0, 0, .null, []) := rfl
theorem iGraphDeltas_merge_79 : ai_find (ai_tab mGraphDeltas_merge) 79 = some (.getfield 44, 82, 0, 8, 0, .null, []) := rfl
theorem iGraphDeltas_merge_82 : ai_find (ai_tab mGraphDeltas_merge) 82 = some (.invokevirtual 144, 85, 96, 1, 1, .ref 5, []) := rfl
theorem iGraphDeltas_merge_85 : ai_find (ai_tab mGraphDeltas_merge) 85 = some (.aload_n 0, 86, 0, 0, 0, .null, []) := rfl
theorem iGraphDeltas_merge_86 : ai_find (ai_tab mGraphDeltas_merge) 86 = some (.getfield 44, 89, 0, 8, 0, .null, []) := rfl
theorem iGraphDeltas_merge_89 : ai_find (ai_tab mGraphDeltas_merge) 89 = some (.invokevirtual 147, 92, 95, 1, 1, .ref 5, []) := rfl
theorem iGraphDeltas_merge_92 : ai_find (ai_tab mGraphDeltas_merge) 92 = some (.ifCond .ne 14, 95, 106, 0, 0, .null, []) := rfl
theorem iGraphDeltas_merge_95 : ai_find (ai_tab mGraphDeltas_merge) 95 = some (.aload_n 0, 96, 0, 0, 0, .null, []) := rfl
theorem iGraphDeltas_merge_96 : ai_find (ai_tab mGraphDeltas_merge) 96 = some (.getfield 44, 99, 0, 8, 0, .null, []) := rfl
theorem iGraphDeltas_merge_99 : ai_find (ai_tab mGraphDeltas_merge) 99 = some (.aload_n 0, 100, 0, 0, 0, .null, []) := rfl
theorem iGraphDeltas_merge_100 : ai_find (ai_tab mGraphDeltas_merge) 100 = some (.getfield 27, 103, 0, 5, 0, .null, []) := rfl
theorem iGraphDeltas_merge_103 : ai_find (ai_tab mGraphDeltas_merge) 103 = some (.invokevirtual 150, 106, 97, 2, 1, .ref 5, []) := rfl
theorem iGraphDeltas_merge_106 : ai_find (ai_tab mGraphDeltas_merge) 106 = some (.aload_n 0, 107, 0, 0, 0, .null, []) := rfl
theorem iGraphDeltas_merge_107 : ai_find (ai_tab mGraphDeltas_merge) 107 = some (.getfield 44, 110, 0, 8, 0, .null, []) := rfl
theorem iGraphDeltas_merge_110 : ai_find (ai_tab mGraphDeltas_merge) 110 = some (.invokevirtual 147, 113, 95, 1, 1, .ref 5, []) := rfl
theorem iGraphDeltas_merge_113 : ai_find (ai_tab mGraphDeltas_merge) 113 = some (.ireturn, 114, 0, 0, 0, .null, []) := rfl
theorem iGraphDeltas_node_0 : ai_find (ai_tab mGraphDeltas_node) 0 = some (.aload_n 0, 1, 0, 0, 0, .null, []) := rfl
theorem iGraphDeltas_node_1 : ai_find (ai_tab mGraphDeltas_node) 1 = some (.getfield 61, 4, 0, 1, 0, .null, []) := rfl
theorem iGraphDeltas_node_4 : ai_find (ai_tab mGraphDeltas_node) 4 = some (.bipush 16, 6, 0, 0, 0, .int (nI 16), []) := rfl
theorem iGraphDeltas_node_6 : ai_find (ai_tab mGraphDeltas_node) 6 = some (.if_icmp .lt 6, 9, 12, 0, 0, .null, []) := rfl
theorem iGraphDeltas_node_9 : ai_find (ai_tab mGraphDeltas_node) 9 = some (.bipush (-2), 11, 0, 0, 0, .int (-2), []) := rfl
theorem iGraphDeltas_node_11 : ai_find (ai_tab mGraphDeltas_node) 11 = some (.ireturn, 12, 0, 0, 0, .null, []) := rfl
theorem iGraphDeltas_node_12 : ai_find (ai_tab mGraphDeltas_node) 12 = some (.aload_n 0, 13, 0, 0, 0, .null, []) := rfl
theorem iGraphDeltas_node_13 : ai_find (ai_tab mGraphDeltas_node) 13 = some (.getfield 61, 16, 0, 1, 0, .null, []) := rfl
theorem iGraphDeltas_node_16 : ai_find (ai_tab mGraphDeltas_node) 16 = some (.istore_n 2, 17, 2, 0, 0, .null, []) := rfl
theorem iGraphDeltas_node_17 : ai_find (ai_tab mGraphDeltas_node) 17 = some (.aload_n 0, 18, 0, 0, 0, .null, []) := rfl
theorem iGraphDeltas_node_18 : ai_find (ai_tab mGraphDeltas_node) 18 = some (.getfield 9, 21, 0, 0, 0, .null, []) := rfl
theorem iGraphDeltas_node_21 : ai_find (ai_tab mGraphDeltas_node) 21 = some (.iload_n 2, 22, 2, 0, 0, .null, []) := rfl
theorem iGraphDeltas_node_22 : ai_find (ai_tab mGraphDeltas_node) 22 = some (.iload_n 1, 23, 1, 0, 0, .null, []) := rfl
theorem iGraphDeltas_node_23 : ai_find (ai_tab mGraphDeltas_node) 23 = some (.ifCond .eq 7, 26, 30, 0, 0, .null, []) := rfl
theorem iGraphDeltas_node_26 : ai_find (ai_tab mGraphDeltas_node) 26 = some (.iconst 1, 27, 0, 0, 0, .int (nI 1), []) := rfl
theorem iGraphDeltas_node_27 : ai_find (ai_tab mGraphDeltas_node) 27 = some (.goto 4, 30, 31, 0, 0, .null, []) := rfl
theorem iGraphDeltas_node_30 : ai_find (ai_tab mGraphDeltas_node) 30 = some (.iconst 0, 31, 0, 0, 0, .int (nI 0), []) := rfl
theorem iGraphDeltas_node_31 : ai_find (ai_tab mGraphDeltas_node) 31 = some (.iastore, 32, 0, 0, 0, .null, []) := rfl
theorem iGraphDeltas_node_32 : ai_find (ai_tab mGraphDeltas_node) 32 = some (.aload_n 0, 33, 0, 0, 0, .null, []) := rfl
theorem iGraphDeltas_node_33 : ai_find (ai_tab mGraphDeltas_node) 33 = some (.getfield 16, 36, 0, 2, 0, .null, []) := rfl
theorem iGraphDeltas_node_36 : ai_find (ai_tab mGraphDeltas_node) 36 = some (.iload_n 2, 37, 2, 0, 0, .null, []) := rfl
theorem iGraphDeltas_node_37 : ai_find (ai_tab mGraphDeltas_node) 37 = some (.aload_n 0, 38, 0, 0, 0, .null, []) := rfl
theorem iGraphDeltas_node_38 : ai_find (ai_tab mGraphDeltas_node) 38 = some (.getfield 9, 41, 0, 0, 0, .null, []) := rfl
theorem iGraphDeltas_node_41 : ai_find (ai_tab mGraphDeltas_node) 41 = some (.iload_n 2, 42, 2, 0, 0, .null, []) := rfl
theorem iGraphDeltas_node_42 : ai_find (ai_tab mGraphDeltas_node) 42 = some (.iaload, 43, 0, 0, 0, .null, []) := rfl
theorem iGraphDeltas_node_43 : ai_find (ai_tab mGraphDeltas_node) 43 = some (.invokevirtual 65, 46, 71, 3, 1, .ref 4, []) := rfl
theorem iGraphDeltas_node_46 : ai_find (ai_tab mGraphDeltas_node) 46 = some (.aload_n 0, 47, 0, 0, 0, .null, []) := rfl
theorem iGraphDeltas_node_47 : ai_find (ai_tab mGraphDeltas_node) 47 = some (.dup, 48, 0, 0, 0, .null, []) := rfl
theorem iGraphDeltas_node_48 : ai_find (ai_tab mGraphDeltas_node) 48 = some (.getfield 61, 51, 0, 1, 0, .null, []) := rfl
theorem iGraphDeltas_node_51 : ai_find (ai_tab mGraphDeltas_node) 51 = some (.iconst 1, 52, 0, 0, 0, .int (nI 1), []) := rfl
theorem iGraphDeltas_node_52 : ai_find (ai_tab mGraphDeltas_node) 52 = some (.iadd, 53, 0, 0, 0, .null, []) := rfl
theorem iGraphDeltas_node_53 : ai_find (ai_tab mGraphDeltas_node) 53 = some (.putfield 61, 56, 0, 1, 0, .null, []) := rfl
theorem iGraphDeltas_node_56 : ai_find (ai_tab mGraphDeltas_node) 56 = some (.iload_n 2, 57, 2, 0, 0, .null, []) := rfl
theorem iGraphDeltas_node_57 : ai_find (ai_tab mGraphDeltas_node) 57 = some (.ireturn, 58, 0, 0, 0, .null, []) := rfl
theorem iGraphDeltas_operation_0 : ai_find (ai_tab mGraphDeltas_operation) 0 = some (.aload_n 0, 1, 0, 0, 0, .null, []) := rfl
theorem iGraphDeltas_operation_1 : ai_find (ai_tab mGraphDeltas_operation) 1 = some (.getfield 27, 4, 0, 5, 0, .null, []) := rfl
theorem iGraphDeltas_operation_4 : ai_find (ai_tab mGraphDeltas_operation) 4 = some (.iload_n 1, 5, 1, 0, 0, .null, []) := rfl
theorem iGraphDeltas_operation_5 : ai_find (ai_tab mGraphDeltas_operation) 5 = some (.iload_n 2, 6, 2, 0, 0, .null, []) := rfl
theorem iGraphDeltas_operation_6 : ai_find (ai_tab mGraphDeltas_operation) 6 = some (.invokevirtual 157, 9, 38, 3, 1, .ref 1, []) := rfl
theorem iGraphDeltas_operation_9 : ai_find (ai_tab mGraphDeltas_operation) 9 = some (.ifCond .eq 16, 12, 25, 0, 0, .null, []) := rfl
theorem iGraphDeltas_operation_12 : ai_find (ai_tab mGraphDeltas_operation) 12 = some (.aload_n 0, 13, 0, 0, 0, .null, []) := rfl
theorem iGraphDeltas_operation_13 : ai_find (ai_tab mGraphDeltas_operation) 13 = some (.getfield 27, 16, 0, 5, 0, .null, []) := rfl
theorem iGraphDeltas_operation_16 : ai_find (ai_tab mGraphDeltas_operation) 16 = some (.iload_n 1, 17, 1, 0, 0, .null, []) := rfl
theorem iGraphDeltas_operation_17 : ai_find (ai_tab mGraphDeltas_operation) 17 = some (.iload_n 2, 18, 2, 0, 0, .null, []) := rfl
theorem iGraphDeltas_operation_18 : ai_find (ai_tab mGraphDeltas_operation) 18 = some (.invokevirtual 160, 21, 29, 3, 1, .ref 1, []) := rfl
theorem iGraphDeltas_operation_21 : ai_find (ai_tab mGraphDeltas_operation) 21 = some (.i2l, 22, 0, 0, 0, .null, []) := rfl
theorem iGraphDeltas_operation_22 : ai_find (ai_tab mGraphDeltas_operation) 22 = some (.goto 6, 25, 28, 0, 0, .null, []) := rfl
theorem iGraphDeltas_operation_25 : ai_find (ai_tab mGraphDeltas_operation) 25 = some (.ldc2_w 101, 28, 0, 0, 0, .long 1099511627776, []) := rfl
theorem iGraphDeltas_operation_28 : ai_find (ai_tab mGraphDeltas_operation) 28 = some (.lreturn, 29, 0, 0, 0, .null, []) := rfl
theorem iGraphDeltas_put_0 : ai_find (ai_tab mGraphDeltas_put) 0 = some (.aload_n 0, 1, 0, 0, 0, .null, []) := rfl
theorem iGraphDeltas_put_1 : ai_find (ai_tab mGraphDeltas_put) 1 = some (.getfield 16, 4, 0, 2, 0, .null, []) := rfl
theorem iGraphDeltas_put_4 : ai_find (ai_tab mGraphDeltas_put) 4 = some (.iload_n 1, 5, 1, 0, 0, .null, []) := rfl
theorem iGraphDeltas_put_5 : ai_find (ai_tab mGraphDeltas_put) 5 = some (.iload_n 2, 6, 2, 0, 0, .null, []) := rfl
theorem iGraphDeltas_put_6 : ai_find (ai_tab mGraphDeltas_put) 6 = some (.invokevirtual 69, 9, 82, 3, 1, .ref 4, []) := rfl
theorem iGraphDeltas_put_9 : ai_find (ai_tab mGraphDeltas_put) 9 = some (.ifCond .ne 5, 12, 14, 0, 0, .null, []) := rfl
theorem iGraphDeltas_put_12 : ai_find (ai_tab mGraphDeltas_put) 12 = some (.iconst 0, 13, 0, 0, 0, .int (nI 0), []) := rfl
theorem iGraphDeltas_put_13 : ai_find (ai_tab mGraphDeltas_put) 13 = some (.ireturn, 14, 1, 0, 0, .null, []) := rfl
theorem iGraphDeltas_put_14 : ai_find (ai_tab mGraphDeltas_put) 14 = some (.aload_n 0, 15, 0, 0, 0, .null, []) := rfl
theorem iGraphDeltas_put_15 : ai_find (ai_tab mGraphDeltas_put) 15 = some (.getfield 16, 18, 0, 2, 0, .null, []) := rfl
theorem iGraphDeltas_put_18 : ai_find (ai_tab mGraphDeltas_put) 18 = some (.iload_n 1, 19, 1, 0, 0, .null, []) := rfl
theorem iGraphDeltas_put_19 : ai_find (ai_tab mGraphDeltas_put) 19 = some (.iload_n 2, 20, 2, 0, 0, .null, []) := rfl
theorem iGraphDeltas_put_20 : ai_find (ai_tab mGraphDeltas_put) 20 = some (.iconst 1, 21, 0, 0, 0, .int (nI 1), []) := rfl
theorem iGraphDeltas_put_21 : ai_find (ai_tab mGraphDeltas_put) 21 = some (.iload_n 3, 22, 3, 0, 0, .null, []) := rfl
theorem iGraphDeltas_put_22 : ai_find (ai_tab mGraphDeltas_put) 22 = some (.invokevirtual 73, 25, 78, 5, 1, .ref 4, []) := rfl
theorem iGraphDeltas_put_25 : ai_find (ai_tab mGraphDeltas_put) 25 = some (.iconst 1, 26, 0, 0, 0, .int (nI 1), []) := rfl
theorem iGraphDeltas_put_26 : ai_find (ai_tab mGraphDeltas_put) 26 = some (.ireturn, 27, 1, 0, 0, .null, []) := rfl
theorem iGraphDeltas_remove_0 : ai_find (ai_tab mGraphDeltas_remove) 0 = some (.aload_n 0, 1, 0, 0, 0, .null, []) := rfl
theorem iGraphDeltas_remove_1 : ai_find (ai_tab mGraphDeltas_remove) 1 = some (.getfield 16, 4, 0, 2, 0, .null, []) := rfl
theorem iGraphDeltas_remove_4 : ai_find (ai_tab mGraphDeltas_remove) 4 = some (.iload_n 1, 5, 1, 0, 0, .null, []) := rfl
theorem iGraphDeltas_remove_5 : ai_find (ai_tab mGraphDeltas_remove) 5 = some (.iload_n 2, 6, 2, 0, 0, .null, []) := rfl
theorem iGraphDeltas_remove_6 : ai_find (ai_tab mGraphDeltas_remove) 6 = some (.invokevirtual 91, 9, 81, 3, 1, .ref 4, []) := rfl
theorem iGraphDeltas_remove_9 : ai_find (ai_tab mGraphDeltas_remove) 9 = some (.ifCond .ne 5, 12, 14, 0, 0, .null, []) := rfl
theorem iGraphDeltas_remove_12 : ai_find (ai_tab mGraphDeltas_remove) 12 = some (.iconst 0, 13, 0, 0, 0, .int (nI 0), []) := rfl
theorem iGraphDeltas_remove_13 : ai_find (ai_tab mGraphDeltas_remove) 13 = some (.ireturn, 14, 1, 0, 0, .null, []) := rfl
theorem iGraphDeltas_remove_14 : ai_find (ai_tab mGraphDeltas_remove) 14 = some (.aload_n 0, 15, 0, 0, 0, .null, []) := rfl
theorem iGraphDeltas_remove_15 : ai_find (ai_tab mGraphDeltas_remove) 15 = some (.getfield 16, 18, 0, 2, 0, .null, []) := rfl
theorem iGraphDeltas_remove_18 : ai_find (ai_tab mGraphDeltas_remove) 18 = some (.iload_n 1, 19, 1, 0, 0, .null, []) := rfl
theorem iGraphDeltas_remove_19 : ai_find (ai_tab mGraphDeltas_remove) 19 = some (.iload_n 2, 20, 2, 0, 0, .null, []) := rfl
theorem iGraphDeltas_remove_20 : ai_find (ai_tab mGraphDeltas_remove) 20 = some (.invokevirtual 94, 23, 74, 3, 1, .ref 4, []) := rfl
theorem iGraphDeltas_remove_23 : ai_find (ai_tab mGraphDeltas_remove) 23 = some (.iconst 1, 24, 0, 0, 0, .int (nI 1), []) := rfl
theorem iGraphDeltas_remove_24 : ai_find (ai_tab mGraphDeltas_remove) 24 = some (.ireturn, 25, 1, 0, 0, .null, []) := rfl
theorem iGraphDeltas_restore_0 : ai_find (ai_tab mGraphDeltas_restore) 0 = some (.aload_n 0, 1, 0, 0, 0, .null, []) := rfl
theorem iGraphDeltas_restore_1 : ai_find (ai_tab mGraphDeltas_restore) 1 = some (.iload_n 1, 2, 1, 0, 0, .null, []) := rfl
theorem iGraphDeltas_restore_2 : ai_find (ai_tab mGraphDeltas_restore) 2 = some (.invokevirtual 123, 5, 10, 2, 1, .ref 0, []) := rfl
theorem iGraphDeltas_restore_5 : ai_find (ai_tab mGraphDeltas_restore) 5 = some (.ifCond .ne 5, 8, 10, 0, 0, .null, []) := rfl
theorem iGraphDeltas_restore_8 : ai_find (ai_tab mGraphDeltas_restore) 8 = some (.iconst 0, 9, 0, 0, 0, .int (nI 0), []) := rfl
theorem iGraphDeltas_restore_9 : ai_find (ai_tab mGraphDeltas_restore) 9 = some (.ireturn, 10, 1, 0, 0, .null, []) := rfl
theorem iGraphDeltas_restore_10 : ai_find (ai_tab mGraphDeltas_restore) 10 = some (.aload_n 0, 11, 0, 0, 0, .null, []) := rfl
theorem iGraphDeltas_restore_11 : ai_find (ai_tab mGraphDeltas_restore) 11 = some (.getfield 16, 14, 0, 2, 0, .null, []) := rfl
theorem iGraphDeltas_restore_14 : ai_find (ai_tab mGraphDeltas_restore) 14 = some (.aload_n 0, 15, 0, 0, 0, .null, []) := rfl
theorem iGraphDeltas_restore_15 : ai_find (ai_tab mGraphDeltas_restore) 15 = some (.getfield 20, 18, 0, 3, 0, .null, []) := rfl
theorem iGraphDeltas_restore_18 : ai_find (ai_tab mGraphDeltas_restore) 18 = some (.iload_n 1, 19, 1, 0, 0, .null, []) := rfl
theorem iGraphDeltas_restore_19 : ai_find (ai_tab mGraphDeltas_restore) 19 = some (.aaload, 20, 0, 0, 0, .null, []) := rfl
theorem iGraphDeltas_restore_20 : ai_find (ai_tab mGraphDeltas_restore) 20 = some (.invokevirtual 116, 23, 73, 2, 1, .ref 4, []) := rfl
theorem iGraphDeltas_restore_23 : ai_find (ai_tab mGraphDeltas_restore) 23 = some (.iconst 1, 24, 0, 0, 0, .int (nI 1), []) := rfl
theorem iGraphDeltas_restore_24 : ai_find (ai_tab mGraphDeltas_restore) 24 = some (.ireturn, 25, 1, 0, 0, .null, []) := rfl
theorem iGraphDeltas_same_0 : ai_find (ai_tab mGraphDeltas_same) 0 = some (.aload_n 0, 1, 0, 0, 0, .null, []) := rfl
theorem iGraphDeltas_same_1 : ai_find (ai_tab mGraphDeltas_same) 1 = some (.iload_n 1, 2, 1, 0, 0, .null, []) := rfl
theorem iGraphDeltas_same_2 : ai_find (ai_tab mGraphDeltas_same) 2 = some (.invokevirtual 123, 5, 10, 2, 1, .ref 0, []) := rfl
theorem iGraphDeltas_same_5 : ai_find (ai_tab mGraphDeltas_same) 5 = some (.ifCond .eq 33, 8, 38, 0, 0, .null, []) := rfl
theorem iGraphDeltas_same_8 : ai_find (ai_tab mGraphDeltas_same) 8 = some (.aload_n 0, 9, 0, 0, 0, .null, []) := rfl
theorem iGraphDeltas_same_9 : ai_find (ai_tab mGraphDeltas_same) 9 = some (.iload_n 2, 10, 2, 0, 0, .null, []) := rfl
theorem iGraphDeltas_same_10 : ai_find (ai_tab mGraphDeltas_same) 10 = some (.invokevirtual 123, 13, 10, 2, 1, .ref 0, []) := rfl
theorem iGraphDeltas_same_13 : ai_find (ai_tab mGraphDeltas_same) 13 = some (.ifCond .eq 25, 16, 38, 0, 0, .null, []) := rfl
theorem iGraphDeltas_same_16 : ai_find (ai_tab mGraphDeltas_same) 16 = some (.aload_n 0, 17, 0, 0, 0, .null, []) := rfl
theorem iGraphDeltas_same_17 : ai_find (ai_tab mGraphDeltas_same) 17 = some (.getfield 20, 20, 0, 3, 0, .null, []) := rfl
theorem iGraphDeltas_same_20 : ai_find (ai_tab mGraphDeltas_same) 20 = some (.iload_n 1, 21, 1, 0, 0, .null, []) := rfl
theorem iGraphDeltas_same_21 : ai_find (ai_tab mGraphDeltas_same) 21 = some (.aaload, 22, 0, 0, 0, .null, []) := rfl
theorem iGraphDeltas_same_22 : ai_find (ai_tab mGraphDeltas_same) 22 = some (.aload_n 0, 23, 0, 0, 0, .null, []) := rfl
theorem iGraphDeltas_same_23 : ai_find (ai_tab mGraphDeltas_same) 23 = some (.getfield 20, 26, 0, 3, 0, .null, []) := rfl
theorem iGraphDeltas_same_26 : ai_find (ai_tab mGraphDeltas_same) 26 = some (.iload_n 2, 27, 2, 0, 0, .null, []) := rfl
theorem iGraphDeltas_same_27 : ai_find (ai_tab mGraphDeltas_same) 27 = some (.aaload, 28, 0, 0, 0, .null, []) := rfl
theorem iGraphDeltas_same_28 : ai_find (ai_tab mGraphDeltas_same) 28 = some (.invokevirtual 126, 31, 86, 2, 1, .ref 4, []) := rfl
theorem iGraphDeltas_same_31 : ai_find (ai_tab mGraphDeltas_same) 31 = some (.ifCond .eq 7, 34, 38, 0, 0, .null, []) := rfl
theorem iGraphDeltas_same_34 : ai_find (ai_tab mGraphDeltas_same) 34 = some (.iconst 1, 35, 0, 0, 0, .int (nI 1), []) := rfl
theorem iGraphDeltas_same_35 : ai_find (ai_tab mGraphDeltas_same) 35 = some (.goto 4, 38, 39, 0, 0, .null, []) := rfl
theorem iGraphDeltas_same_38 : ai_find (ai_tab mGraphDeltas_same) 38 = some (.iconst 0, 39, 0, 0, 0, .int (nI 0), []) := rfl
theorem iGraphDeltas_same_39 : ai_find (ai_tab mGraphDeltas_same) 39 = some (.ireturn, 40, 1, 0, 0, .null, []) := rfl
theorem iGraphDeltas_snapshot_0 : ai_find (ai_tab mGraphDeltas_snapshot) 0 = some (.aload_n 0, 1, 0, 0, 0, .null, []) := rfl
theorem iGraphDeltas_snapshot_1 : ai_find (ai_tab mGraphDeltas_snapshot) 1 = some (.getfield 113, 4, 0, 4, 0, .null, []) := rfl
theorem iGraphDeltas_snapshot_4 : ai_find (ai_tab mGraphDeltas_snapshot) 4 = some (.bipush 8, 6, 0, 0, 0, .int (nI 8), []) := rfl
theorem iGraphDeltas_snapshot_6 : ai_find (ai_tab mGraphDeltas_snapshot) 6 = some (.if_icmp .lt 6, 9, 12, 0, 0, .null, []) := rfl
theorem iGraphDeltas_snapshot_9 : ai_find (ai_tab mGraphDeltas_snapshot) 9 = some (.bipush (-2), 11, 0, 0, 0, .int (-2), []) := rfl
theorem iGraphDeltas_snapshot_11 : ai_find (ai_tab mGraphDeltas_snapshot) 11 = some (.ireturn, 12, 0, 0, 0, .null, []) := rfl
theorem iGraphDeltas_snapshot_12 : ai_find (ai_tab mGraphDeltas_snapshot) 12 = some (.aload_n 0, 13, 0, 0, 0, .null, []) := rfl
theorem iGraphDeltas_snapshot_13 : ai_find (ai_tab mGraphDeltas_snapshot) 13 = some (.getfield 20, 16, 0, 3, 0, .null, []) := rfl
theorem iGraphDeltas_snapshot_16 : ai_find (ai_tab mGraphDeltas_snapshot) 16 = some (.aload_n 0, 17, 0, 0, 0, .null, []) := rfl
theorem iGraphDeltas_snapshot_17 : ai_find (ai_tab mGraphDeltas_snapshot) 17 = some (.getfield 113, 20, 0, 4, 0, .null, []) := rfl
theorem iGraphDeltas_snapshot_20 : ai_find (ai_tab mGraphDeltas_snapshot) 20 = some (.aaload, 21, 0, 0, 0, .null, []) := rfl
theorem iGraphDeltas_snapshot_21 : ai_find (ai_tab mGraphDeltas_snapshot) 21 = some (.astore_n 1, 22, 1, 0, 0, .null, []) := rfl
theorem iGraphDeltas_snapshot_22 : ai_find (ai_tab mGraphDeltas_snapshot) 22 = some (.aload_n 1, 23, 1, 0, 0, .null, []) := rfl
theorem iGraphDeltas_snapshot_23 : ai_find (ai_tab mGraphDeltas_snapshot) 23 = some (.aload_n 0, 24, 0, 0, 0, .null, []) := rfl
theorem iGraphDeltas_snapshot_24 : ai_find (ai_tab mGraphDeltas_snapshot) 24 = some (.getfield 16, 27, 0, 2, 0, .null, []) := rfl
theorem iGraphDeltas_snapshot_27 : ai_find (ai_tab mGraphDeltas_snapshot) 27 = some (.invokevirtual 116, 30, 73, 2, 1, .ref 4, []) := rfl
theorem iGraphDeltas_snapshot_30 : ai_find (ai_tab mGraphDeltas_snapshot) 30 = some (.aload_n 1, 31, 1, 0, 0, .null, []) := rfl
theorem iGraphDeltas_snapshot_31 : ai_find (ai_tab mGraphDeltas_snapshot) 31 = some (.invokevirtual 120, 34, 76, 1, 1, .ref 4, []) := rfl
theorem iGraphDeltas_snapshot_34 : ai_find (ai_tab mGraphDeltas_snapshot) 34 = some (.aload_n 0, 35, 0, 0, 0, .null, []) := rfl
theorem iGraphDeltas_snapshot_35 : ai_find (ai_tab mGraphDeltas_snapshot) 35 = some (.dup, 36, 0, 0, 0, .null, []) := rfl
theorem iGraphDeltas_snapshot_36 : ai_find (ai_tab mGraphDeltas_snapshot) 36 = some (.getfield 113, 39, 0, 4, 0, .null, []) := rfl
theorem iGraphDeltas_snapshot_39 : ai_find (ai_tab mGraphDeltas_snapshot) 39 = some (.iconst 1, 40, 0, 0, 0, .int (nI 1), []) := rfl
theorem iGraphDeltas_snapshot_40 : ai_find (ai_tab mGraphDeltas_snapshot) 40 = some (.iadd, 41, 0, 0, 0, .null, []) := rfl
theorem iGraphDeltas_snapshot_41 : ai_find (ai_tab mGraphDeltas_snapshot) 41 = some (.putfield 113, 44, 0, 4, 0, .null, []) := rfl
theorem iGraphDeltas_snapshot_44 : ai_find (ai_tab mGraphDeltas_snapshot) 44 = some (.aload_n 0, 45, 0, 0, 0, .null, []) := rfl
theorem iGraphDeltas_snapshot_45 : ai_find (ai_tab mGraphDeltas_snapshot) 45 = some (.getfield 113, 48, 0, 4, 0, .null, []) := rfl
theorem iGraphDeltas_snapshot_48 : ai_find (ai_tab mGraphDeltas_snapshot) 48 = some (.iconst 1, 49, 0, 0, 0, .int (nI 1), []) := rfl
theorem iGraphDeltas_snapshot_49 : ai_find (ai_tab mGraphDeltas_snapshot) 49 = some (.isub, 50, 0, 0, 0, .null, []) := rfl
theorem iGraphDeltas_snapshot_50 : ai_find (ai_tab mGraphDeltas_snapshot) 50 = some (.ireturn, 51, 0, 0, 0, .null, []) := rfl
theorem iGraphDeltas_value_0 : ai_find (ai_tab mGraphDeltas_value) 0 = some (.aload_n 0, 1, 0, 0, 0, .null, []) := rfl
theorem iGraphDeltas_value_1 : ai_find (ai_tab mGraphDeltas_value) 1 = some (.getfield 16, 4, 0, 2, 0, .null, []) := rfl
theorem iGraphDeltas_value_4 : ai_find (ai_tab mGraphDeltas_value) 4 = some (.iload_n 1, 5, 1, 0, 0, .null, []) := rfl
theorem iGraphDeltas_value_5 : ai_find (ai_tab mGraphDeltas_value) 5 = some (.iload_n 2, 6, 2, 0, 0, .null, []) := rfl
theorem iGraphDeltas_value_6 : ai_find (ai_tab mGraphDeltas_value) 6 = some (.invokevirtual 91, 9, 81, 3, 1, .ref 4, []) := rfl
theorem iGraphDeltas_value_9 : ai_find (ai_tab mGraphDeltas_value) 9 = some (.ifCond .eq 14, 12, 23, 0, 0, .null, []) := rfl
theorem iGraphDeltas_value_12 : ai_find (ai_tab mGraphDeltas_value) 12 = some (.aload_n 0, 13, 0, 0, 0, .null, []) := rfl
theorem iGraphDeltas_value_13 : ai_find (ai_tab mGraphDeltas_value) 13 = some (.getfield 16, 16, 0, 2, 0, .null, []) := rfl
theorem iGraphDeltas_value_16 : ai_find (ai_tab mGraphDeltas_value) 16 = some (.iload_n 1, 17, 1, 0, 0, .null, []) := rfl
theorem iGraphDeltas_value_17 : ai_find (ai_tab mGraphDeltas_value) 17 = some (.iload_n 2, 18, 2, 0, 0, .null, []) := rfl
theorem iGraphDeltas_value_18 : ai_find (ai_tab mGraphDeltas_value) 18 = some (.invokevirtual 97, 21, 84, 3, 1, .ref 4, []) := rfl
theorem iGraphDeltas_value_21 : ai_find (ai_tab mGraphDeltas_value) 21 = some (.i2l, 22, 0, 0, 0, .null, []) := rfl
theorem iGraphDeltas_value_22 : ai_find (ai_tab mGraphDeltas_value) 22 = some (.lreturn, 23, 0, 0, 0, .null, []) := rfl
theorem iGraphDeltas_value_23 : ai_find (ai_tab mGraphDeltas_value) 23 = some (.aload_n 0, 24, 0, 0, 0, .null, []) := rfl
theorem iGraphDeltas_value_24 : ai_find (ai_tab mGraphDeltas_value) 24 = some (.getfield 16, 27, 0, 2, 0, .null, []) := rfl
theorem iGraphDeltas_value_27 : ai_find (ai_tab mGraphDeltas_value) 27 = some (.iload_n 1, 28, 1, 0, 0, .null, []) := rfl
theorem iGraphDeltas_value_28 : ai_find (ai_tab mGraphDeltas_value) 28 = some (.iload_n 2, 29, 2, 0, 0, .null, []) := rfl
theorem iGraphDeltas_value_29 : ai_find (ai_tab mGraphDeltas_value) 29 = some (.invokevirtual 69, 32, 82, 3, 1, .ref 4, []) := rfl
theorem iGraphDeltas_value_32 : ai_find (ai_tab mGraphDeltas_value) 32 = some (.ifCond .ne 7, 35, 39, 0, 0, .null, []) := rfl
theorem iGraphDeltas_value_35 : ai_find (ai_tab mGraphDeltas_value) 35 = some (.ldc2_w 101, 38, 0, 0, 0, .long 1099511627776, []) := rfl
theorem iGraphDeltas_value_38 : ai_find (ai_tab mGraphDeltas_value) 38 = some (.lreturn, 39, 0, 0, 0, .null, []) := rfl
theorem iGraphDeltas_value_39 : ai_find (ai_tab mGraphDeltas_value) 39 = some (.aload_n 0, 40, 0, 0, 0, .null, []) := rfl
theorem iGraphDeltas_value_40 : ai_find (ai_tab mGraphDeltas_value) 40 = some (.getfield 16, 43, 0, 2, 0, .null, []) := rfl
theorem iGraphDeltas_value_43 : ai_find (ai_tab mGraphDeltas_value) 43 = some (.iload_n 1, 44, 1, 0, 0, .null, []) := rfl
theorem iGraphDeltas_value_44 : ai_find (ai_tab mGraphDeltas_value) 44 = some (.iload_n 2, 45, 2, 0, 0, .null, []) := rfl
theorem iGraphDeltas_value_45 : ai_find (ai_tab mGraphDeltas_value) 45 = some (.invokevirtual 103, 48, 91, 3, 1, .ref 4, []) := rfl
theorem iGraphDeltas_value_48 : ai_find (ai_tab mGraphDeltas_value) 48 = some (.lookupswitch 54 #[(1, 28), (2, 39)], 76, 102, 0, 0, .null, [(nI 1, 76), (nI 2, 87)]) := rfl
theorem iGraphDeltas_value_76 : ai_find (ai_tab mGraphDeltas_value) 76 = some (.aload_n 0, 77, 0, 0, 0, .null, []) := rfl
theorem iGraphDeltas_value_77 : ai_find (ai_tab mGraphDeltas_value) 77 = some (.getfield 16, 80, 0, 2, 0, .null, []) := rfl
theorem iGraphDeltas_value_80 : ai_find (ai_tab mGraphDeltas_value) 80 = some (.iload_n 1, 81, 1, 0, 0, .null, []) := rfl
theorem iGraphDeltas_value_81 : ai_find (ai_tab mGraphDeltas_value) 81 = some (.iload_n 2, 82, 2, 0, 0, .null, []) := rfl
theorem iGraphDeltas_value_82 : ai_find (ai_tab mGraphDeltas_value) 82 = some (.invokevirtual 106, 85, 75, 3, 1, .ref 4, []) := rfl
theorem iGraphDeltas_value_85 : ai_find (ai_tab mGraphDeltas_value) 85 = some (.i2l, 86, 0, 0, 0, .null, []) := rfl
theorem iGraphDeltas_value_86 : ai_find (ai_tab mGraphDeltas_value) 86 = some (.lreturn, 87, 0, 0, 0, .null, []) := rfl
theorem iGraphDeltas_value_87 : ai_find (ai_tab mGraphDeltas_value) 87 = some (.ldc2_w 109, 90, 0, 0, 0, .long 4294967296, []) := rfl
theorem iGraphDeltas_value_90 : ai_find (ai_tab mGraphDeltas_value) 90 = some (.aload_n 0, 91, 0, 0, 0, .null, []) := rfl
theorem iGraphDeltas_value_91 : ai_find (ai_tab mGraphDeltas_value) 91 = some (.getfield 16, 94, 0, 2, 0, .null, []) := rfl
theorem iGraphDeltas_value_94 : ai_find (ai_tab mGraphDeltas_value) 94 = some (.iload_n 1, 95, 1, 0, 0, .null, []) := rfl
theorem iGraphDeltas_value_95 : ai_find (ai_tab mGraphDeltas_value) 95 = some (.iload_n 2, 96, 2, 0, 0, .null, []) := rfl
theorem iGraphDeltas_value_96 : ai_find (ai_tab mGraphDeltas_value) 96 = some (.invokevirtual 106, 99, 75, 3, 1, .ref 4, []) := rfl
theorem iGraphDeltas_value_99 : ai_find (ai_tab mGraphDeltas_value) 99 = some (.i2l, 100, 0, 0, 0, .null, []) := rfl
theorem iGraphDeltas_value_100 : ai_find (ai_tab mGraphDeltas_value) 100 = some (.ladd, 101, 0, 0, 0, .null, []) := rfl
theorem iGraphDeltas_value_101 : ai_find (ai_tab mGraphDeltas_value) 101 = some (.lreturn, 102, 0, 0, 0, .null, []) := rfl
theorem iGraphDeltas_value_102 : ai_find (ai_tab mGraphDeltas_value) 102 = some (.ldc2_w 111, 105, 0, 0, 0, .long 8589934592, []) := rfl
theorem iGraphDeltas_value_105 : ai_find (ai_tab mGraphDeltas_value) 105 = some (.lreturn, 106, 0, 0, 0, .null, []) := rfl
theorem iDelta_init_0 : ai_find (ai_tab mDelta_init) 0 = some (.aload_n 0, 1, 0, 0, 0, .null, []) := rfl
theorem iDelta_init_1 : ai_find (ai_tab mDelta_init) 1 = some (.invokespecial 5, 4, 0, 1, 3, .null, []) := rfl
theorem iDelta_init_4 : ai_find (ai_tab mDelta_init) 4 = some (.aload_n 0, 5, 0, 0, 0, .null, []) := rfl
theorem iDelta_init_5 : ai_find (ai_tab mDelta_init) 5 = some (.sipush 1397, 8, 0, 0, 0, .int (nI 1397), []) := rfl
theorem iDelta_init_8 : ai_find (ai_tab mDelta_init) 8 = some (.newarray .int, 10, 0, 0, 0, .null, []) := rfl
theorem iDelta_init_10 : ai_find (ai_tab mDelta_init) 10 = some (.putfield 11, 13, 1, 0, 3, .null, []) := rfl
theorem iDelta_init_13 : ai_find (ai_tab mDelta_init) 13 = some (.return_, 14, 0, 0, 0, .null, []) := rfl
theorem iDelta_add_0 : ai_find (ai_tab mDelta_add) 0 = some (.aload_n 0, 1, 0, 0, 0, .null, []) := rfl
theorem iDelta_add_1 : ai_find (ai_tab mDelta_add) 1 = some (.getfield 15, 4, 1, 1, 0, .null, []) := rfl
theorem iDelta_add_4 : ai_find (ai_tab mDelta_add) 4 = some (.bipush 127, 6, 0, 0, 0, .int (nI 127), []) := rfl
theorem iDelta_add_6 : ai_find (ai_tab mDelta_add) 6 = some (.if_icmp .lt 4, 9, 10, 0, 0, .null, []) := rfl
theorem iDelta_add_9 : ai_find (ai_tab mDelta_add) 9 = some (.return_, 10, 0, 0, 0, .null, []) := rfl
theorem iDelta_add_10 : ai_find (ai_tab mDelta_add) 10 = some (.aload_n 0, 11, 0, 0, 0, .null, []) := rfl
theorem iDelta_add_11 : ai_find (ai_tab mDelta_add) 11 = some (.getfield 15, 14, 1, 1, 0, .null, []) := rfl
theorem iDelta_add_14 : ai_find (ai_tab mDelta_add) 14 = some (.bipush 11, 16, 0, 0, 0, .int (nI 11), []) := rfl
theorem iDelta_add_16 : ai_find (ai_tab mDelta_add) 16 = some (.imul, 17, 0, 0, 0, .null, []) := rfl
theorem iDelta_add_17 : ai_find (ai_tab mDelta_add) 17 = some (.istore 6, 19, 6, 0, 0, .null, []) := rfl
theorem iDelta_add_19 : ai_find (ai_tab mDelta_add) 19 = some (.aload_n 0, 20, 0, 0, 0, .null, []) := rfl
theorem iDelta_add_20 : ai_find (ai_tab mDelta_add) 20 = some (.getfield 11, 23, 1, 0, 0, .null, []) := rfl
theorem iDelta_add_23 : ai_find (ai_tab mDelta_add) 23 = some (.iload 6, 25, 6, 0, 0, .null, []) := rfl
theorem iDelta_add_25 : ai_find (ai_tab mDelta_add) 25 = some (.iload_n 1, 26, 1, 0, 0, .null, []) := rfl
theorem iDelta_add_26 : ai_find (ai_tab mDelta_add) 26 = some (.iastore, 27, 0, 0, 0, .null, []) := rfl
theorem iDelta_add_27 : ai_find (ai_tab mDelta_add) 27 = some (.aload_n 0, 28, 0, 0, 0, .null, []) := rfl
theorem iDelta_add_28 : ai_find (ai_tab mDelta_add) 28 = some (.getfield 11, 31, 1, 0, 0, .null, []) := rfl
theorem iDelta_add_31 : ai_find (ai_tab mDelta_add) 31 = some (.iload 6, 33, 6, 0, 0, .null, []) := rfl
theorem iDelta_add_33 : ai_find (ai_tab mDelta_add) 33 = some (.iconst 1, 34, 0, 0, 0, .int (nI 1), []) := rfl
theorem iDelta_add_34 : ai_find (ai_tab mDelta_add) 34 = some (.iadd, 35, 0, 0, 0, .null, []) := rfl
theorem iDelta_add_35 : ai_find (ai_tab mDelta_add) 35 = some (.iload_n 2, 36, 2, 0, 0, .null, []) := rfl
theorem iDelta_add_36 : ai_find (ai_tab mDelta_add) 36 = some (.iastore, 37, 0, 0, 0, .null, []) := rfl
theorem iDelta_add_37 : ai_find (ai_tab mDelta_add) 37 = some (.aload_n 0, 38, 0, 0, 0, .null, []) := rfl
theorem iDelta_add_38 : ai_find (ai_tab mDelta_add) 38 = some (.getfield 11, 41, 1, 0, 0, .null, []) := rfl
theorem iDelta_add_41 : ai_find (ai_tab mDelta_add) 41 = some (.iload 6, 43, 6, 0, 0, .null, []) := rfl
theorem iDelta_add_43 : ai_find (ai_tab mDelta_add) 43 = some (.iconst 2, 44, 0, 0, 0, .int (nI 2), []) := rfl
theorem iDelta_add_44 : ai_find (ai_tab mDelta_add) 44 = some (.iadd, 45, 0, 0, 0, .null, []) := rfl
theorem iDelta_add_45 : ai_find (ai_tab mDelta_add) 45 = some (.iload_n 3, 46, 3, 0, 0, .null, []) := rfl
theorem iDelta_add_46 : ai_find (ai_tab mDelta_add) 46 = some (.iastore, 47, 0, 0, 0, .null, []) := rfl
theorem iDelta_add_47 : ai_find (ai_tab mDelta_add) 47 = some (.aload_n 0, 48, 0, 0, 0, .null, []) := rfl
theorem iDelta_add_48 : ai_find (ai_tab mDelta_add) 48 = some (.getfield 11, 51, 1, 0, 0, .null, []) := rfl
theorem iDelta_add_51 : ai_find (ai_tab mDelta_add) 51 = some (.iload 6, 53, 6, 0, 0, .null, []) := rfl
theorem iDelta_add_53 : ai_find (ai_tab mDelta_add) 53 = some (.iconst 3, 54, 0, 0, 0, .int (nI 3), []) := rfl
theorem iDelta_add_54 : ai_find (ai_tab mDelta_add) 54 = some (.iadd, 55, 0, 0, 0, .null, []) := rfl
theorem iDelta_add_55 : ai_find (ai_tab mDelta_add) 55 = some (.iload 4, 57, 4, 0, 0, .null, []) := rfl
theorem iDelta_add_57 : ai_find (ai_tab mDelta_add) 57 = some (.iastore, 58, 0, 0, 0, .null, []) := rfl
theorem iDelta_add_58 : ai_find (ai_tab mDelta_add) 58 = some (.aload_n 0, 59, 0, 0, 0, .null, []) := rfl
theorem iDelta_add_59 : ai_find (ai_tab mDelta_add) 59 = some (.getfield 11, 62, 1, 0, 0, .null, []) := rfl
theorem iDelta_add_62 : ai_find (ai_tab mDelta_add) 62 = some (.iload 6, 64, 6, 0, 0, .null, []) := rfl
theorem iDelta_add_64 : ai_find (ai_tab mDelta_add) 64 = some (.iconst 4, 65, 0, 0, 0, .int (nI 4), []) := rfl
theorem iDelta_add_65 : ai_find (ai_tab mDelta_add) 65 = some (.iadd, 66, 0, 0, 0, .null, []) := rfl
theorem iDelta_add_66 : ai_find (ai_tab mDelta_add) 66 = some (.iload 5, 68, 5, 0, 0, .null, []) := rfl
theorem iDelta_add_68 : ai_find (ai_tab mDelta_add) 68 = some (.iastore, 69, 0, 0, 0, .null, []) := rfl
theorem iDelta_add_69 : ai_find (ai_tab mDelta_add) 69 = some (.aload_n 0, 70, 0, 0, 0, .null, []) := rfl
theorem iDelta_add_70 : ai_find (ai_tab mDelta_add) 70 = some (.dup, 71, 0, 0, 0, .null, []) := rfl
theorem iDelta_add_71 : ai_find (ai_tab mDelta_add) 71 = some (.getfield 15, 74, 1, 1, 0, .null, []) := rfl
theorem iDelta_add_74 : ai_find (ai_tab mDelta_add) 74 = some (.iconst 1, 75, 0, 0, 0, .int (nI 1), []) := rfl
theorem iDelta_add_75 : ai_find (ai_tab mDelta_add) 75 = some (.iadd, 76, 0, 0, 0, .null, []) := rfl
theorem iDelta_add_76 : ai_find (ai_tab mDelta_add) 76 = some (.putfield 15, 79, 1, 1, 0, .null, []) := rfl
theorem iDelta_add_79 : ai_find (ai_tab mDelta_add) 79 = some (.return_, 80, 0, 0, 0, .null, []) := rfl
theorem iDelta_addCreate_0 : ai_find (ai_tab mDelta_addCreate) 0 = some (.aload_n 0, 1, 0, 0, 0, .null, []) := rfl
theorem iDelta_addCreate_1 : ai_find (ai_tab mDelta_addCreate) 1 = some (.iconst 1, 2, 0, 0, 0, .int (nI 1), []) := rfl
theorem iDelta_addCreate_2 : ai_find (ai_tab mDelta_addCreate) 2 = some (.iload_n 1, 3, 1, 0, 0, .null, []) := rfl
theorem iDelta_addCreate_3 : ai_find (ai_tab mDelta_addCreate) 3 = some (.iload_n 2, 4, 2, 0, 0, .null, []) := rfl
theorem iDelta_addCreate_4 : ai_find (ai_tab mDelta_addCreate) 4 = some (.iconst 0, 5, 0, 0, 0, .int (nI 0), []) := rfl
theorem iDelta_addCreate_5 : ai_find (ai_tab mDelta_addCreate) 5 = some (.iconst 0, 6, 0, 0, 0, .int (nI 0), []) := rfl
theorem iDelta_addCreate_6 : ai_find (ai_tab mDelta_addCreate) 6 = some (.invokevirtual 38, 9, 23, 6, 1, .ref 1, []) := rfl
theorem iDelta_addCreate_9 : ai_find (ai_tab mDelta_addCreate) 9 = some (.return_, 10, 0, 0, 0, .null, []) := rfl
theorem iDelta_addFrom_0 : ai_find (ai_tab mDelta_addFrom) 0 = some (.aload_n 0, 1, 0, 0, 0, .null, []) := rfl
theorem iDelta_addFrom_1 : ai_find (ai_tab mDelta_addFrom) 1 = some (.getfield 15, 4, 1, 1, 0, .null, []) := rfl
theorem iDelta_addFrom_4 : ai_find (ai_tab mDelta_addFrom) 4 = some (.bipush 127, 6, 0, 0, 0, .int (nI 127), []) := rfl
theorem iDelta_addFrom_6 : ai_find (ai_tab mDelta_addFrom) 6 = some (.if_icmp .ge 49, 9, 55, 0, 0, .null, []) := rfl
theorem iDelta_addFrom_9 : ai_find (ai_tab mDelta_addFrom) 9 = some (.iload_n 2, 10, 2, 0, 0, .null, []) := rfl
theorem iDelta_addFrom_10 : ai_find (ai_tab mDelta_addFrom) 10 = some (.ifCond .lt 45, 13, 55, 0, 0, .null, []) := rfl
theorem iDelta_addFrom_13 : ai_find (ai_tab mDelta_addFrom) 13 = some (.iload_n 2, 14, 2, 0, 0, .null, []) := rfl
theorem iDelta_addFrom_14 : ai_find (ai_tab mDelta_addFrom) 14 = some (.aload_n 1, 15, 1, 0, 0, .null, []) := rfl
theorem iDelta_addFrom_15 : ai_find (ai_tab mDelta_addFrom) 15 = some (.getfield 15, 18, 1, 1, 0, .null, []) := rfl
theorem iDelta_addFrom_18 : ai_find (ai_tab mDelta_addFrom) 18 = some (.if_icmp .ge 37, 21, 55, 0, 0, .null, []) := rfl
theorem iDelta_addFrom_21 : ai_find (ai_tab mDelta_addFrom) 21 = some (.aload_n 1, 22, 1, 0, 0, .null, []) := rfl
theorem iDelta_addFrom_22 : ai_find (ai_tab mDelta_addFrom) 22 = some (.getfield 11, 25, 1, 0, 0, .null, []) := rfl
theorem iDelta_addFrom_25 : ai_find (ai_tab mDelta_addFrom) 25 = some (.iload_n 2, 26, 2, 0, 0, .null, []) := rfl
theorem iDelta_addFrom_26 : ai_find (ai_tab mDelta_addFrom) 26 = some (.bipush 11, 28, 0, 0, 0, .int (nI 11), []) := rfl
theorem iDelta_addFrom_28 : ai_find (ai_tab mDelta_addFrom) 28 = some (.imul, 29, 0, 0, 0, .null, []) := rfl
theorem iDelta_addFrom_29 : ai_find (ai_tab mDelta_addFrom) 29 = some (.aload_n 0, 30, 0, 0, 0, .null, []) := rfl
theorem iDelta_addFrom_30 : ai_find (ai_tab mDelta_addFrom) 30 = some (.getfield 11, 33, 1, 0, 0, .null, []) := rfl
theorem iDelta_addFrom_33 : ai_find (ai_tab mDelta_addFrom) 33 = some (.aload_n 0, 34, 0, 0, 0, .null, []) := rfl
theorem iDelta_addFrom_34 : ai_find (ai_tab mDelta_addFrom) 34 = some (.getfield 15, 37, 1, 1, 0, .null, []) := rfl
theorem iDelta_addFrom_37 : ai_find (ai_tab mDelta_addFrom) 37 = some (.bipush 11, 39, 0, 0, 0, .int (nI 11), []) := rfl
theorem iDelta_addFrom_39 : ai_find (ai_tab mDelta_addFrom) 39 = some (.imul, 40, 0, 0, 0, .null, []) := rfl
theorem iDelta_addFrom_40 : ai_find (ai_tab mDelta_addFrom) 40 = some (.bipush 11, 42, 0, 0, 0, .int (nI 11), []) := rfl
theorem iDelta_addFrom_42 : ai_find (ai_tab mDelta_addFrom) 42 = some (.invokestatic 42, 45, 0, 5, 5, .null, []) := rfl
theorem iDelta_addFrom_45 : ai_find (ai_tab mDelta_addFrom) 45 = some (.aload_n 0, 46, 0, 0, 0, .null, []) := rfl
theorem iDelta_addFrom_46 : ai_find (ai_tab mDelta_addFrom) 46 = some (.dup, 47, 0, 0, 0, .null, []) := rfl
theorem iDelta_addFrom_47 : ai_find (ai_tab mDelta_addFrom) 47 = some (.getfield 15, 50, 1, 1, 0, .null, []) := rfl
theorem iDelta_addFrom_50 : ai_find (ai_tab mDelta_addFrom) 50 = some (.iconst 1, 51, 0, 0, 0, .int (nI 1), []) := rfl
theorem iDelta_addFrom_51 : ai_find (ai_tab mDelta_addFrom) 51 = some (.iadd, 52, 0, 0, 0, .null, []) := rfl
theorem iDelta_addFrom_52 : ai_find (ai_tab mDelta_addFrom) 52 = some (.putfield 15, 55, 1, 1, 0, .null, []) := rfl
theorem iDelta_addFrom_55 : ai_find (ai_tab mDelta_addFrom) 55 = some (.return_, 56, 0, 0, 0, .null, []) := rfl
theorem iDelta_addInserted_0 : ai_find (ai_tab mDelta_addInserted) 0 = some (.aload_n 0, 1, 0, 0, 0, .null, []) := rfl
theorem iDelta_addInserted_1 : ai_find (ai_tab mDelta_addInserted) 1 = some (.getfield 15, 4, 1, 1, 0, .null, []) := rfl
theorem iDelta_addInserted_4 : ai_find (ai_tab mDelta_addInserted) 4 = some (.iconst 1, 5, 0, 0, 0, .int (nI 1), []) := rfl
theorem iDelta_addInserted_5 : ai_find (ai_tab mDelta_addInserted) 5 = some (.isub, 6, 0, 0, 0, .null, []) := rfl
theorem iDelta_addInserted_6 : ai_find (ai_tab mDelta_addInserted) 6 = some (.istore_n 2, 7, 2, 0, 0, .null, []) := rfl
theorem iDelta_addInserted_7 : ai_find (ai_tab mDelta_addInserted) 7 = some (.iload_n 2, 8, 2, 0, 0, .null, []) := rfl
theorem iDelta_addInserted_8 : ai_find (ai_tab mDelta_addInserted) 8 = some (.ifCond .lt 46, 11, 54, 0, 0, .null, []) := rfl
theorem iDelta_addInserted_11 : ai_find (ai_tab mDelta_addInserted) 11 = some (.aload_n 0, 12, 0, 0, 0, .null, []) := rfl
theorem iDelta_addInserted_12 : ai_find (ai_tab mDelta_addInserted) 12 = some (.iload_n 2, 13, 2, 0, 0, .null, []) := rfl
theorem iDelta_addInserted_13 : ai_find (ai_tab mDelta_addInserted) 13 = some (.invokevirtual 26, 16, 40, 2, 1, .ref 1, []) := rfl
theorem iDelta_addInserted_16 : ai_find (ai_tab mDelta_addInserted) 16 = some (.bipush 6, 18, 0, 0, 0, .int (nI 6), []) := rfl
theorem iDelta_addInserted_18 : ai_find (ai_tab mDelta_addInserted) 18 = some (.if_icmp .ge 36, 21, 54, 0, 0, .null, []) := rfl
theorem iDelta_addInserted_21 : ai_find (ai_tab mDelta_addInserted) 21 = some (.aload_n 0, 22, 0, 0, 0, .null, []) := rfl
theorem iDelta_addInserted_22 : ai_find (ai_tab mDelta_addInserted) 22 = some (.getfield 11, 25, 1, 0, 0, .null, []) := rfl
theorem iDelta_addInserted_25 : ai_find (ai_tab mDelta_addInserted) 25 = some (.iload_n 2, 26, 2, 0, 0, .null, []) := rfl
theorem iDelta_addInserted_26 : ai_find (ai_tab mDelta_addInserted) 26 = some (.bipush 11, 28, 0, 0, 0, .int (nI 11), []) := rfl
theorem iDelta_addInserted_28 : ai_find (ai_tab mDelta_addInserted) 28 = some (.imul, 29, 0, 0, 0, .null, []) := rfl
theorem iDelta_addInserted_29 : ai_find (ai_tab mDelta_addInserted) 29 = some (.iconst 5, 30, 0, 0, 0, .int (nI 5), []) := rfl
theorem iDelta_addInserted_30 : ai_find (ai_tab mDelta_addInserted) 30 = some (.iadd, 31, 0, 0, 0, .null, []) := rfl
theorem iDelta_addInserted_31 : ai_find (ai_tab mDelta_addInserted) 31 = some (.aload_n 0, 32, 0, 0, 0, .null, []) := rfl
theorem iDelta_addInserted_32 : ai_find (ai_tab mDelta_addInserted) 32 = some (.iload_n 2, 33, 2, 0, 0, .null, []) := rfl
theorem iDelta_addInserted_33 : ai_find (ai_tab mDelta_addInserted) 33 = some (.invokevirtual 26, 36, 40, 2, 1, .ref 1, []) := rfl
theorem iDelta_addInserted_36 : ai_find (ai_tab mDelta_addInserted) 36 = some (.iadd, 37, 0, 0, 0, .null, []) := rfl
theorem iDelta_addInserted_37 : ai_find (ai_tab mDelta_addInserted) 37 = some (.iload_n 1, 38, 1, 0, 0, .null, []) := rfl
theorem iDelta_addInserted_38 : ai_find (ai_tab mDelta_addInserted) 38 = some (.iastore, 39, 0, 0, 0, .null, []) := rfl
theorem iDelta_addInserted_39 : ai_find (ai_tab mDelta_addInserted) 39 = some (.aload_n 0, 40, 0, 0, 0, .null, []) := rfl
theorem iDelta_addInserted_40 : ai_find (ai_tab mDelta_addInserted) 40 = some (.getfield 11, 43, 1, 0, 0, .null, []) := rfl
theorem iDelta_addInserted_43 : ai_find (ai_tab mDelta_addInserted) 43 = some (.iload_n 2, 44, 2, 0, 0, .null, []) := rfl
theorem iDelta_addInserted_44 : ai_find (ai_tab mDelta_addInserted) 44 = some (.bipush 11, 46, 0, 0, 0, .int (nI 11), []) := rfl
theorem iDelta_addInserted_46 : ai_find (ai_tab mDelta_addInserted) 46 = some (.imul, 47, 0, 0, 0, .null, []) := rfl
theorem iDelta_addInserted_47 : ai_find (ai_tab mDelta_addInserted) 47 = some (.iconst 4, 48, 0, 0, 0, .int (nI 4), []) := rfl
theorem iDelta_addInserted_48 : ai_find (ai_tab mDelta_addInserted) 48 = some (.iadd, 49, 0, 0, 0, .null, []) := rfl
theorem iDelta_addInserted_49 : ai_find (ai_tab mDelta_addInserted) 49 = some (.dup2, 50, 0, 0, 0, .null, []) := rfl
theorem iDelta_addInserted_50 : ai_find (ai_tab mDelta_addInserted) 50 = some (.iaload, 51, 0, 0, 0, .null, []) := rfl
theorem iDelta_addInserted_51 : ai_find (ai_tab mDelta_addInserted) 51 = some (.iconst 1, 52, 0, 0, 0, .int (nI 1), []) := rfl
theorem iDelta_addInserted_52 : ai_find (ai_tab mDelta_addInserted) 52 = some (.iadd, 53, 0, 0, 0, .null, []) := rfl
theorem iDelta_addInserted_53 : ai_find (ai_tab mDelta_addInserted) 53 = some (.iastore, 54, 0, 0, 0, .null, []) := rfl
theorem iDelta_addInserted_54 : ai_find (ai_tab mDelta_addInserted) 54 = some (.return_, 55, 0, 0, 0, .null, []) := rfl
theorem iDelta_addSet_0 : ai_find (ai_tab mDelta_addSet) 0 = some (.aload_n 0, 1, 0, 0, 0, .null, []) := rfl
theorem iDelta_addSet_1 : ai_find (ai_tab mDelta_addSet) 1 = some (.iconst 2, 2, 0, 0, 0, .int (nI 2), []) := rfl
theorem iDelta_addSet_2 : ai_find (ai_tab mDelta_addSet) 2 = some (.iload_n 1, 3, 1, 0, 0, .null, []) := rfl
theorem iDelta_addSet_3 : ai_find (ai_tab mDelta_addSet) 3 = some (.iload_n 2, 4, 2, 0, 0, .null, []) := rfl
theorem iDelta_addSet_4 : ai_find (ai_tab mDelta_addSet) 4 = some (.iload_n 3, 5, 3, 0, 0, .null, []) := rfl
theorem iDelta_addSet_5 : ai_find (ai_tab mDelta_addSet) 5 = some (.iload 4, 7, 4, 0, 0, .null, []) := rfl
theorem iDelta_addSet_7 : ai_find (ai_tab mDelta_addSet) 7 = some (.invokevirtual 38, 10, 23, 6, 1, .ref 1, []) := rfl
theorem iDelta_addSet_10 : ai_find (ai_tab mDelta_addSet) 10 = some (.return_, 11, 0, 0, 0, .null, []) := rfl
theorem iDelta_addSplice_0 : ai_find (ai_tab mDelta_addSplice) 0 = some (.aload_n 0, 1, 0, 0, 0, .null, []) := rfl
theorem iDelta_addSplice_1 : ai_find (ai_tab mDelta_addSplice) 1 = some (.iconst 3, 2, 0, 0, 0, .int (nI 3), []) := rfl
theorem iDelta_addSplice_2 : ai_find (ai_tab mDelta_addSplice) 2 = some (.iload_n 1, 3, 1, 0, 0, .null, []) := rfl
theorem iDelta_addSplice_3 : ai_find (ai_tab mDelta_addSplice) 3 = some (.iload_n 2, 4, 2, 0, 0, .null, []) := rfl
theorem iDelta_addSplice_4 : ai_find (ai_tab mDelta_addSplice) 4 = some (.iload_n 3, 5, 3, 0, 0, .null, []) := rfl
theorem iDelta_addSplice_5 : ai_find (ai_tab mDelta_addSplice) 5 = some (.iconst 0, 6, 0, 0, 0, .int (nI 0), []) := rfl
theorem iDelta_addSplice_6 : ai_find (ai_tab mDelta_addSplice) 6 = some (.invokevirtual 38, 9, 23, 6, 1, .ref 1, []) := rfl
theorem iDelta_addSplice_9 : ai_find (ai_tab mDelta_addSplice) 9 = some (.return_, 10, 0, 0, 0, .null, []) := rfl
theorem iDelta_cell_0 : ai_find (ai_tab mDelta_cell) 0 = some (.aload_n 0, 1, 0, 0, 0, .null, []) := rfl
theorem iDelta_cell_1 : ai_find (ai_tab mDelta_cell) 1 = some (.getfield 11, 4, 1, 0, 0, .null, []) := rfl
theorem iDelta_cell_4 : ai_find (ai_tab mDelta_cell) 4 = some (.iload_n 1, 5, 1, 0, 0, .null, []) := rfl
theorem iDelta_cell_5 : ai_find (ai_tab mDelta_cell) 5 = some (.bipush 11, 7, 0, 0, 0, .int (nI 11), []) := rfl
theorem iDelta_cell_7 : ai_find (ai_tab mDelta_cell) 7 = some (.imul, 8, 0, 0, 0, .null, []) := rfl
theorem iDelta_cell_8 : ai_find (ai_tab mDelta_cell) 8 = some (.iload_n 2, 9, 2, 0, 0, .null, []) := rfl
theorem iDelta_cell_9 : ai_find (ai_tab mDelta_cell) 9 = some (.iadd, 10, 0, 0, 0, .null, []) := rfl
theorem iDelta_cell_10 : ai_find (ai_tab mDelta_cell) 10 = some (.iaload, 11, 0, 0, 0, .null, []) := rfl
theorem iDelta_cell_11 : ai_find (ai_tab mDelta_cell) 11 = some (.ireturn, 12, 0, 0, 0, .null, []) := rfl
theorem iDelta_clear_0 : ai_find (ai_tab mDelta_clear) 0 = some (.aload_n 0, 1, 0, 0, 0, .null, []) := rfl
theorem iDelta_clear_1 : ai_find (ai_tab mDelta_clear) 1 = some (.iconst 0, 2, 0, 0, 0, .int (nI 0), []) := rfl
theorem iDelta_clear_2 : ai_find (ai_tab mDelta_clear) 2 = some (.putfield 15, 5, 1, 1, 0, .null, []) := rfl
theorem iDelta_clear_5 : ai_find (ai_tab mDelta_clear) 5 = some (.return_, 6, 0, 0, 0, .null, []) := rfl
theorem iDelta_code_0 : ai_find (ai_tab mDelta_code) 0 = some (.aload_n 0, 1, 0, 0, 0, .null, []) := rfl
theorem iDelta_code_1 : ai_find (ai_tab mDelta_code) 1 = some (.getfield 11, 4, 1, 0, 0, .null, []) := rfl
theorem iDelta_code_4 : ai_find (ai_tab mDelta_code) 4 = some (.iload_n 1, 5, 1, 0, 0, .null, []) := rfl
theorem iDelta_code_5 : ai_find (ai_tab mDelta_code) 5 = some (.bipush 11, 7, 0, 0, 0, .int (nI 11), []) := rfl
theorem iDelta_code_7 : ai_find (ai_tab mDelta_code) 7 = some (.imul, 8, 0, 0, 0, .null, []) := rfl
theorem iDelta_code_8 : ai_find (ai_tab mDelta_code) 8 = some (.iaload, 9, 0, 0, 0, .null, []) := rfl
theorem iDelta_code_9 : ai_find (ai_tab mDelta_code) 9 = some (.ireturn, 10, 0, 0, 0, .null, []) := rfl
theorem iDelta_content_0 : ai_find (ai_tab mDelta_content) 0 = some (.aload_n 0, 1, 0, 0, 0, .null, []) := rfl
theorem iDelta_content_1 : ai_find (ai_tab mDelta_content) 1 = some (.getfield 11, 4, 1, 0, 0, .null, []) := rfl
theorem iDelta_content_4 : ai_find (ai_tab mDelta_content) 4 = some (.iload_n 1, 5, 1, 0, 0, .null, []) := rfl
theorem iDelta_content_5 : ai_find (ai_tab mDelta_content) 5 = some (.bipush 11, 7, 0, 0, 0, .int (nI 11), []) := rfl
theorem iDelta_content_7 : ai_find (ai_tab mDelta_content) 7 = some (.imul, 8, 0, 0, 0, .null, []) := rfl
theorem iDelta_content_8 : ai_find (ai_tab mDelta_content) 8 = some (.iconst 4, 9, 0, 0, 0, .int (nI 4), []) := rfl
theorem iDelta_content_9 : ai_find (ai_tab mDelta_content) 9 = some (.iadd, 10, 0, 0, 0, .null, []) := rfl
theorem iDelta_content_10 : ai_find (ai_tab mDelta_content) 10 = some (.iaload, 11, 0, 0, 0, .null, []) := rfl
theorem iDelta_content_11 : ai_find (ai_tab mDelta_content) 11 = some (.ireturn, 12, 0, 0, 0, .null, []) := rfl
theorem iDelta_createdKind_0 : ai_find (ai_tab mDelta_createdKind) 0 = some (.iconst 0, 1, 0, 0, 0, .int (nI 0), []) := rfl
theorem iDelta_createdKind_1 : ai_find (ai_tab mDelta_createdKind) 1 = some (.istore_n 2, 2, 2, 0, 0, .null, []) := rfl
theorem iDelta_createdKind_2 : ai_find (ai_tab mDelta_createdKind) 2 = some (.iload_n 2, 3, 2, 0, 0, .null, []) := rfl
theorem iDelta_createdKind_3 : ai_find (ai_tab mDelta_createdKind) 3 = some (.aload_n 0, 4, 0, 0, 0, .null, []) := rfl
theorem iDelta_createdKind_4 : ai_find (ai_tab mDelta_createdKind) 4 = some (.getfield 15, 7, 1, 1, 0, .null, []) := rfl
theorem iDelta_createdKind_7 : ai_find (ai_tab mDelta_createdKind) 7 = some (.if_icmp .ge 33, 10, 40, 0, 0, .null, []) := rfl
theorem iDelta_createdKind_10 : ai_find (ai_tab mDelta_createdKind) 10 = some (.aload_n 0, 11, 0, 0, 0, .null, []) := rfl
theorem iDelta_createdKind_11 : ai_find (ai_tab mDelta_createdKind) 11 = some (.iload_n 2, 12, 2, 0, 0, .null, []) := rfl
theorem iDelta_createdKind_12 : ai_find (ai_tab mDelta_createdKind) 12 = some (.invokevirtual 23, 15, 31, 2, 1, .ref 1, []) := rfl
theorem iDelta_createdKind_15 : ai_find (ai_tab mDelta_createdKind) 15 = some (.iconst 1, 16, 0, 0, 0, .int (nI 1), []) := rfl
theorem iDelta_createdKind_16 : ai_find (ai_tab mDelta_createdKind) 16 = some (.if_icmp .ne 24, 19, 40, 0, 0, .null, []) := rfl
theorem iDelta_createdKind_19 : ai_find (ai_tab mDelta_createdKind) 19 = some (.aload_n 0, 20, 0, 0, 0, .null, []) := rfl
theorem iDelta_createdKind_20 : ai_find (ai_tab mDelta_createdKind) 20 = some (.iload_n 2, 21, 2, 0, 0, .null, []) := rfl
theorem iDelta_createdKind_21 : ai_find (ai_tab mDelta_createdKind) 21 = some (.invokevirtual 35, 24, 43, 2, 1, .ref 1, []) := rfl
theorem iDelta_createdKind_24 : ai_find (ai_tab mDelta_createdKind) 24 = some (.iload_n 1, 25, 1, 0, 0, .null, []) := rfl
theorem iDelta_createdKind_25 : ai_find (ai_tab mDelta_createdKind) 25 = some (.if_icmp .ne 9, 28, 34, 0, 0, .null, []) := rfl
theorem iDelta_createdKind_28 : ai_find (ai_tab mDelta_createdKind) 28 = some (.aload_n 0, 29, 0, 0, 0, .null, []) := rfl
theorem iDelta_createdKind_29 : ai_find (ai_tab mDelta_createdKind) 29 = some (.iload_n 2, 30, 2, 0, 0, .null, []) := rfl
theorem iDelta_createdKind_30 : ai_find (ai_tab mDelta_createdKind) 30 = some (.invokevirtual 29, 33, 44, 2, 1, .ref 1, []) := rfl
theorem iDelta_createdKind_33 : ai_find (ai_tab mDelta_createdKind) 33 = some (.ireturn, 34, 0, 0, 0, .null, []) := rfl
theorem iDelta_createdKind_34 : ai_find (ai_tab mDelta_createdKind) 34 = some (.iinc 2 1, 37, 2, 0, 0, .int (nI 1), []) := rfl
theorem iDelta_createdKind_37 : ai_find (ai_tab mDelta_createdKind) 37 = some (.goto (-35), 40, 2, 0, 0, .null, []) := rfl
theorem iDelta_createdKind_40 : ai_find (ai_tab mDelta_createdKind) 40 = some (.iconst (-1), 41, 0, 0, 0, .int (-1), []) := rfl
theorem iDelta_createdKind_41 : ai_find (ai_tab mDelta_createdKind) 41 = some (.ireturn, 42, 0, 0, 0, .null, []) := rfl
theorem iDelta_deletes_0 : ai_find (ai_tab mDelta_deletes) 0 = some (.aload_n 0, 1, 0, 0, 0, .null, []) := rfl
theorem iDelta_deletes_1 : ai_find (ai_tab mDelta_deletes) 1 = some (.getfield 11, 4, 1, 0, 0, .null, []) := rfl
theorem iDelta_deletes_4 : ai_find (ai_tab mDelta_deletes) 4 = some (.iload_n 1, 5, 1, 0, 0, .null, []) := rfl
theorem iDelta_deletes_5 : ai_find (ai_tab mDelta_deletes) 5 = some (.bipush 11, 7, 0, 0, 0, .int (nI 11), []) := rfl
theorem iDelta_deletes_7 : ai_find (ai_tab mDelta_deletes) 7 = some (.imul, 8, 0, 0, 0, .null, []) := rfl
theorem iDelta_deletes_8 : ai_find (ai_tab mDelta_deletes) 8 = some (.iconst 3, 9, 0, 0, 0, .int (nI 3), []) := rfl
theorem iDelta_deletes_9 : ai_find (ai_tab mDelta_deletes) 9 = some (.iadd, 10, 0, 0, 0, .null, []) := rfl
theorem iDelta_deletes_10 : ai_find (ai_tab mDelta_deletes) 10 = some (.iaload, 11, 0, 0, 0, .null, []) := rfl
theorem iDelta_deletes_11 : ai_find (ai_tab mDelta_deletes) 11 = some (.ireturn, 12, 0, 0, 0, .null, []) := rfl
theorem iDelta_end_0 : ai_find (ai_tab mDelta_end) 0 = some (.aload_n 0, 1, 0, 0, 0, .null, []) := rfl
theorem iDelta_end_1 : ai_find (ai_tab mDelta_end) 1 = some (.iload_n 1, 2, 1, 0, 0, .null, []) := rfl
theorem iDelta_end_2 : ai_find (ai_tab mDelta_end) 2 = some (.invokevirtual 29, 5, 44, 2, 1, .ref 1, []) := rfl
theorem iDelta_end_5 : ai_find (ai_tab mDelta_end) 5 = some (.aload_n 0, 6, 0, 0, 0, .null, []) := rfl
theorem iDelta_end_6 : ai_find (ai_tab mDelta_end) 6 = some (.iload_n 1, 7, 1, 0, 0, .null, []) := rfl
theorem iDelta_end_7 : ai_find (ai_tab mDelta_end) 7 = some (.invokevirtual 32, 10, 34, 2, 1, .ref 1, []) := rfl
theorem iDelta_end_10 : ai_find (ai_tab mDelta_end) 10 = some (.iadd, 11, 0, 0, 0, .null, []) := rfl
theorem iDelta_end_11 : ai_find (ai_tab mDelta_end) 11 = some (.ireturn, 12, 0, 0, 0, .null, []) := rfl
theorem iDelta_endsInOrder_0 : ai_find (ai_tab mDelta_endsInOrder) 0 = some (.aload_n 0, 1, 0, 0, 0, .null, []) := rfl
theorem iDelta_endsInOrder_1 : ai_find (ai_tab mDelta_endsInOrder) 1 = some (.getfield 15, 4, 1, 1, 0, .null, []) := rfl
theorem iDelta_endsInOrder_4 : ai_find (ai_tab mDelta_endsInOrder) 4 = some (.iconst 2, 5, 0, 0, 0, .int (nI 2), []) := rfl
theorem iDelta_endsInOrder_5 : ai_find (ai_tab mDelta_endsInOrder) 5 = some (.isub, 6, 0, 0, 0, .null, []) := rfl
theorem iDelta_endsInOrder_6 : ai_find (ai_tab mDelta_endsInOrder) 6 = some (.istore_n 1, 7, 1, 0, 0, .null, []) := rfl
theorem iDelta_endsInOrder_7 : ai_find (ai_tab mDelta_endsInOrder) 7 = some (.aload_n 0, 8, 0, 0, 0, .null, []) := rfl
theorem iDelta_endsInOrder_8 : ai_find (ai_tab mDelta_endsInOrder) 8 = some (.getfield 15, 11, 1, 1, 0, .null, []) := rfl
theorem iDelta_endsInOrder_11 : ai_find (ai_tab mDelta_endsInOrder) 11 = some (.iconst 1, 12, 0, 0, 0, .int (nI 1), []) := rfl
theorem iDelta_endsInOrder_12 : ai_find (ai_tab mDelta_endsInOrder) 12 = some (.isub, 13, 0, 0, 0, .null, []) := rfl
theorem iDelta_endsInOrder_13 : ai_find (ai_tab mDelta_endsInOrder) 13 = some (.istore_n 2, 14, 2, 0, 0, .null, []) := rfl
theorem iDelta_endsInOrder_14 : ai_find (ai_tab mDelta_endsInOrder) 14 = some (.iload_n 1, 15, 1, 0, 0, .null, []) := rfl
theorem iDelta_endsInOrder_15 : ai_find (ai_tab mDelta_endsInOrder) 15 = some (.ifCond .ge 5, 18, 20, 0, 0, .null, []) := rfl
theorem iDelta_endsInOrder_18 : ai_find (ai_tab mDelta_endsInOrder) 18 = some (.iconst 1, 19, 0, 0, 0, .int (nI 1), []) := rfl
theorem iDelta_endsInOrder_19 : ai_find (ai_tab mDelta_endsInOrder) 19 = some (.ireturn, 20, 1, 0, 0, .null, []) := rfl
theorem iDelta_endsInOrder_20 : ai_find (ai_tab mDelta_endsInOrder) 20 = some (.aload_n 0, 21, 0, 0, 0, .null, []) := rfl
theorem iDelta_endsInOrder_21 : ai_find (ai_tab mDelta_endsInOrder) 21 = some (.iload_n 2, 22, 2, 0, 0, .null, []) := rfl
theorem iDelta_endsInOrder_22 : ai_find (ai_tab mDelta_endsInOrder) 22 = some (.invokevirtual 23, 25, 31, 2, 1, .ref 1, []) := rfl
theorem iDelta_endsInOrder_25 : ai_find (ai_tab mDelta_endsInOrder) 25 = some (.iconst 1, 26, 0, 0, 0, .int (nI 1), []) := rfl
theorem iDelta_endsInOrder_26 : ai_find (ai_tab mDelta_endsInOrder) 26 = some (.if_icmp .ne 31, 29, 57, 0, 0, .null, []) := rfl
theorem iDelta_endsInOrder_29 : ai_find (ai_tab mDelta_endsInOrder) 29 = some (.aload_n 0, 30, 0, 0, 0, .null, []) := rfl
theorem iDelta_endsInOrder_30 : ai_find (ai_tab mDelta_endsInOrder) 30 = some (.iload_n 1, 31, 1, 0, 0, .null, []) := rfl
theorem iDelta_endsInOrder_31 : ai_find (ai_tab mDelta_endsInOrder) 31 = some (.invokevirtual 23, 34, 31, 2, 1, .ref 1, []) := rfl
theorem iDelta_endsInOrder_34 : ai_find (ai_tab mDelta_endsInOrder) 34 = some (.iconst 1, 35, 0, 0, 0, .int (nI 1), []) := rfl
theorem iDelta_endsInOrder_35 : ai_find (ai_tab mDelta_endsInOrder) 35 = some (.if_icmp .ne 20, 38, 55, 0, 0, .null, []) := rfl
theorem iDelta_endsInOrder_38 : ai_find (ai_tab mDelta_endsInOrder) 38 = some (.aload_n 0, 39, 0, 0, 0, .null, []) := rfl
theorem iDelta_endsInOrder_39 : ai_find (ai_tab mDelta_endsInOrder) 39 = some (.iload_n 1, 40, 1, 0, 0, .null, []) := rfl
theorem iDelta_endsInOrder_40 : ai_find (ai_tab mDelta_endsInOrder) 40 = some (.invokevirtual 35, 43, 43, 2, 1, .ref 1, []) := rfl
theorem iDelta_endsInOrder_43 : ai_find (ai_tab mDelta_endsInOrder) 43 = some (.aload_n 0, 44, 0, 0, 0, .null, []) := rfl
theorem iDelta_endsInOrder_44 : ai_find (ai_tab mDelta_endsInOrder) 44 = some (.iload_n 2, 45, 2, 0, 0, .null, []) := rfl
theorem iDelta_endsInOrder_45 : ai_find (ai_tab mDelta_endsInOrder) 45 = some (.invokevirtual 35, 48, 43, 2, 1, .ref 1, []) := rfl
theorem iDelta_endsInOrder_48 : ai_find (ai_tab mDelta_endsInOrder) 48 = some (.if_icmp .ge 7, 51, 55, 0, 0, .null, []) := rfl
theorem iDelta_endsInOrder_51 : ai_find (ai_tab mDelta_endsInOrder) 51 = some (.iconst 1, 52, 0, 0, 0, .int (nI 1), []) := rfl
theorem iDelta_endsInOrder_52 : ai_find (ai_tab mDelta_endsInOrder) 52 = some (.goto 4, 55, 56, 0, 0, .null, []) := rfl
theorem iDelta_endsInOrder_55 : ai_find (ai_tab mDelta_endsInOrder) 55 = some (.iconst 0, 56, 0, 0, 0, .int (nI 0), []) := rfl
theorem iDelta_endsInOrder_56 : ai_find (ai_tab mDelta_endsInOrder) 56 = some (.ireturn, 57, 1, 0, 0, .null, []) := rfl
theorem iDelta_endsInOrder_57 : ai_find (ai_tab mDelta_endsInOrder) 57 = some (.aload_n 0, 58, 0, 0, 0, .null, []) := rfl
theorem iDelta_endsInOrder_58 : ai_find (ai_tab mDelta_endsInOrder) 58 = some (.iload_n 2, 59, 2, 0, 0, .null, []) := rfl
theorem iDelta_endsInOrder_59 : ai_find (ai_tab mDelta_endsInOrder) 59 = some (.invokevirtual 52, 62, 47, 2, 1, .ref 1, []) := rfl
theorem iDelta_endsInOrder_62 : ai_find (ai_tab mDelta_endsInOrder) 62 = some (.ifCond .eq 16, 65, 78, 0, 0, .null, []) := rfl
theorem iDelta_endsInOrder_65 : ai_find (ai_tab mDelta_endsInOrder) 65 = some (.aload_n 0, 66, 0, 0, 0, .null, []) := rfl
theorem iDelta_endsInOrder_66 : ai_find (ai_tab mDelta_endsInOrder) 66 = some (.iload_n 2, 67, 2, 0, 0, .null, []) := rfl
theorem iDelta_endsInOrder_67 : ai_find (ai_tab mDelta_endsInOrder) 67 = some (.iload_n 1, 68, 1, 0, 0, .null, []) := rfl
theorem iDelta_endsInOrder_68 : ai_find (ai_tab mDelta_endsInOrder) 68 = some (.invokevirtual 56, 71, 37, 3, 1, .ref 1, []) := rfl
theorem iDelta_endsInOrder_71 : ai_find (ai_tab mDelta_endsInOrder) 71 = some (.ifCond .eq 7, 74, 78, 0, 0, .null, []) := rfl
theorem iDelta_endsInOrder_74 : ai_find (ai_tab mDelta_endsInOrder) 74 = some (.iconst 1, 75, 0, 0, 0, .int (nI 1), []) := rfl
theorem iDelta_endsInOrder_75 : ai_find (ai_tab mDelta_endsInOrder) 75 = some (.goto 4, 78, 79, 0, 0, .null, []) := rfl
theorem iDelta_endsInOrder_78 : ai_find (ai_tab mDelta_endsInOrder) 78 = some (.iconst 0, 79, 0, 0, 0, .int (nI 0), []) := rfl
theorem iDelta_endsInOrder_79 : ai_find (ai_tab mDelta_endsInOrder) 79 = some (.ireturn, 80, 1, 0, 0, .null, []) := rfl
theorem iDelta_follows_0 : ai_find (ai_tab mDelta_follows) 0 = some (.aload_n 0, 1, 0, 0, 0, .null, []) := rfl
theorem iDelta_follows_1 : ai_find (ai_tab mDelta_follows) 1 = some (.iload_n 2, 2, 2, 0, 0, .null, []) := rfl
theorem iDelta_follows_2 : ai_find (ai_tab mDelta_follows) 2 = some (.invokevirtual 23, 5, 31, 2, 1, .ref 1, []) := rfl
theorem iDelta_follows_5 : ai_find (ai_tab mDelta_follows) 5 = some (.iconst 1, 6, 0, 0, 0, .int (nI 1), []) := rfl
theorem iDelta_follows_6 : ai_find (ai_tab mDelta_follows) 6 = some (.if_icmp .eq 16, 9, 22, 0, 0, .null, []) := rfl
theorem iDelta_follows_9 : ai_find (ai_tab mDelta_follows) 9 = some (.aload_n 0, 10, 0, 0, 0, .null, []) := rfl
theorem iDelta_follows_10 : ai_find (ai_tab mDelta_follows) 10 = some (.iload_n 2, 11, 2, 0, 0, .null, []) := rfl
theorem iDelta_follows_11 : ai_find (ai_tab mDelta_follows) 11 = some (.invokevirtual 35, 14, 43, 2, 1, .ref 1, []) := rfl
theorem iDelta_follows_14 : ai_find (ai_tab mDelta_follows) 14 = some (.aload_n 0, 15, 0, 0, 0, .null, []) := rfl
theorem iDelta_follows_15 : ai_find (ai_tab mDelta_follows) 15 = some (.iload_n 1, 16, 1, 0, 0, .null, []) := rfl
theorem iDelta_follows_16 : ai_find (ai_tab mDelta_follows) 16 = some (.invokevirtual 35, 19, 43, 2, 1, .ref 1, []) := rfl
theorem iDelta_follows_19 : ai_find (ai_tab mDelta_follows) 19 = some (.if_icmp .ge 5, 22, 24, 0, 0, .null, []) := rfl
theorem iDelta_follows_22 : ai_find (ai_tab mDelta_follows) 22 = some (.iconst 1, 23, 0, 0, 0, .int (nI 1), []) := rfl
theorem iDelta_follows_23 : ai_find (ai_tab mDelta_follows) 23 = some (.ireturn, 24, 1, 0, 0, .null, []) := rfl
theorem iDelta_follows_24 : ai_find (ai_tab mDelta_follows) 24 = some (.aload_n 0, 25, 0, 0, 0, .null, []) := rfl
theorem iDelta_follows_25 : ai_find (ai_tab mDelta_follows) 25 = some (.iload_n 2, 26, 2, 0, 0, .null, []) := rfl
theorem iDelta_follows_26 : ai_find (ai_tab mDelta_follows) 26 = some (.invokevirtual 23, 29, 31, 2, 1, .ref 1, []) := rfl
theorem iDelta_follows_29 : ai_find (ai_tab mDelta_follows) 29 = some (.iconst 3, 30, 0, 0, 0, .int (nI 3), []) := rfl
theorem iDelta_follows_30 : ai_find (ai_tab mDelta_follows) 30 = some (.if_icmp .ne 11, 33, 41, 0, 0, .null, []) := rfl
theorem iDelta_follows_33 : ai_find (ai_tab mDelta_follows) 33 = some (.aload_n 0, 34, 0, 0, 0, .null, []) := rfl
theorem iDelta_follows_34 : ai_find (ai_tab mDelta_follows) 34 = some (.iload_n 2, 35, 2, 0, 0, .null, []) := rfl
theorem iDelta_follows_35 : ai_find (ai_tab mDelta_follows) 35 = some (.invokevirtual 63, 38, 35, 2, 1, .ref 1, []) := rfl
theorem iDelta_follows_38 : ai_find (ai_tab mDelta_follows) 38 = some (.goto 8, 41, 46, 0, 0, .null, []) := rfl
theorem iDelta_follows_41 : ai_find (ai_tab mDelta_follows) 41 = some (.aload_n 0, 42, 0, 0, 0, .null, []) := rfl
theorem iDelta_follows_42 : ai_find (ai_tab mDelta_follows) 42 = some (.iload_n 2, 43, 2, 0, 0, .null, []) := rfl
theorem iDelta_follows_43 : ai_find (ai_tab mDelta_follows) 43 = some (.invokevirtual 29, 46, 44, 2, 1, .ref 1, []) := rfl
theorem iDelta_follows_46 : ai_find (ai_tab mDelta_follows) 46 = some (.istore_n 3, 47, 3, 0, 0, .null, []) := rfl
theorem iDelta_follows_47 : ai_find (ai_tab mDelta_follows) 47 = some (.aload_n 0, 48, 0, 0, 0, .null, []) := rfl
theorem iDelta_follows_48 : ai_find (ai_tab mDelta_follows) 48 = some (.iload_n 2, 49, 2, 0, 0, .null, []) := rfl
theorem iDelta_follows_49 : ai_find (ai_tab mDelta_follows) 49 = some (.aload_n 0, 50, 0, 0, 0, .null, []) := rfl
theorem iDelta_follows_50 : ai_find (ai_tab mDelta_follows) 50 = some (.iload_n 1, 51, 1, 0, 0, .null, []) := rfl
theorem iDelta_follows_51 : ai_find (ai_tab mDelta_follows) 51 = some (.invokevirtual 23, 54, 31, 2, 1, .ref 1, []) := rfl
theorem iDelta_follows_54 : ai_find (ai_tab mDelta_follows) 54 = some (.aload_n 0, 55, 0, 0, 0, .null, []) := rfl
theorem iDelta_follows_55 : ai_find (ai_tab mDelta_follows) 55 = some (.iload_n 1, 56, 1, 0, 0, .null, []) := rfl
theorem iDelta_follows_56 : ai_find (ai_tab mDelta_follows) 56 = some (.invokevirtual 35, 59, 43, 2, 1, .ref 1, []) := rfl
theorem iDelta_follows_59 : ai_find (ai_tab mDelta_follows) 59 = some (.invokevirtual 66, 62, 41, 4, 1, .ref 1, []) := rfl
theorem iDelta_follows_62 : ai_find (ai_tab mDelta_follows) 62 = some (.ifCond .eq 16, 65, 78, 0, 0, .null, []) := rfl
theorem iDelta_follows_65 : ai_find (ai_tab mDelta_follows) 65 = some (.aload_n 0, 66, 0, 0, 0, .null, []) := rfl
theorem iDelta_follows_66 : ai_find (ai_tab mDelta_follows) 66 = some (.iload_n 1, 67, 1, 0, 0, .null, []) := rfl
theorem iDelta_follows_67 : ai_find (ai_tab mDelta_follows) 67 = some (.invokevirtual 29, 70, 44, 2, 1, .ref 1, []) := rfl
theorem iDelta_follows_70 : ai_find (ai_tab mDelta_follows) 70 = some (.iload_n 3, 71, 3, 0, 0, .null, []) := rfl
theorem iDelta_follows_71 : ai_find (ai_tab mDelta_follows) 71 = some (.if_icmp .le 7, 74, 78, 0, 0, .null, []) := rfl
theorem iDelta_follows_74 : ai_find (ai_tab mDelta_follows) 74 = some (.iconst 1, 75, 0, 0, 0, .int (nI 1), []) := rfl
theorem iDelta_follows_75 : ai_find (ai_tab mDelta_follows) 75 = some (.goto 4, 78, 79, 0, 0, .null, []) := rfl
theorem iDelta_follows_78 : ai_find (ai_tab mDelta_follows) 78 = some (.iconst 0, 79, 0, 0, 0, .int (nI 0), []) := rfl
theorem iDelta_follows_79 : ai_find (ai_tab mDelta_follows) 79 = some (.ireturn, 80, 1, 0, 0, .null, []) := rfl
theorem iDelta_hasCell_0 : ai_find (ai_tab mDelta_hasCell) 0 = some (.iload_n 1, 1, 1, 0, 0, .null, []) := rfl
theorem iDelta_hasCell_1 : ai_find (ai_tab mDelta_hasCell) 1 = some (.ifCond .lt 28, 4, 29, 0, 0, .null, []) := rfl
theorem iDelta_hasCell_4 : ai_find (ai_tab mDelta_hasCell) 4 = some (.iload_n 1, 5, 1, 0, 0, .null, []) := rfl
theorem iDelta_hasCell_5 : ai_find (ai_tab mDelta_hasCell) 5 = some (.aload_n 0, 6, 0, 0, 0, .null, []) := rfl
theorem iDelta_hasCell_6 : ai_find (ai_tab mDelta_hasCell) 6 = some (.getfield 15, 9, 1, 1, 0, .null, []) := rfl
theorem iDelta_hasCell_9 : ai_find (ai_tab mDelta_hasCell) 9 = some (.if_icmp .ge 20, 12, 29, 0, 0, .null, []) := rfl
theorem iDelta_hasCell_12 : ai_find (ai_tab mDelta_hasCell) 12 = some (.iload_n 2, 13, 2, 0, 0, .null, []) := rfl
theorem iDelta_hasCell_13 : ai_find (ai_tab mDelta_hasCell) 13 = some (.ifCond .lt 16, 16, 29, 0, 0, .null, []) := rfl
theorem iDelta_hasCell_16 : ai_find (ai_tab mDelta_hasCell) 16 = some (.iload_n 2, 17, 2, 0, 0, .null, []) := rfl
theorem iDelta_hasCell_17 : ai_find (ai_tab mDelta_hasCell) 17 = some (.aload_n 0, 18, 0, 0, 0, .null, []) := rfl
theorem iDelta_hasCell_18 : ai_find (ai_tab mDelta_hasCell) 18 = some (.iload_n 1, 19, 1, 0, 0, .null, []) := rfl
theorem iDelta_hasCell_19 : ai_find (ai_tab mDelta_hasCell) 19 = some (.invokevirtual 19, 22, 49, 2, 1, .ref 1, []) := rfl
theorem iDelta_hasCell_22 : ai_find (ai_tab mDelta_hasCell) 22 = some (.if_icmp .ge 7, 25, 29, 0, 0, .null, []) := rfl
theorem iDelta_hasCell_25 : ai_find (ai_tab mDelta_hasCell) 25 = some (.iconst 1, 26, 0, 0, 0, .int (nI 1), []) := rfl
theorem iDelta_hasCell_26 : ai_find (ai_tab mDelta_hasCell) 26 = some (.goto 4, 29, 30, 0, 0, .null, []) := rfl
theorem iDelta_hasCell_29 : ai_find (ai_tab mDelta_hasCell) 29 = some (.iconst 0, 30, 0, 0, 0, .int (nI 0), []) := rfl
theorem iDelta_hasCell_30 : ai_find (ai_tab mDelta_hasCell) 30 = some (.ireturn, 31, 1, 0, 0, .null, []) := rfl
theorem iDelta_inserted_0 : ai_find (ai_tab mDelta_inserted) 0 = some (.aload_n 0, 1, 0, 0, 0, .null, []) := rfl
theorem iDelta_inserted_1 : ai_find (ai_tab mDelta_inserted) 1 = some (.getfield 11, 4, 1, 0, 0, .null, []) := rfl
theorem iDelta_inserted_4 : ai_find (ai_tab mDelta_inserted) 4 = some (.iload_n 1, 5, 1, 0, 0, .null, []) := rfl
theorem iDelta_inserted_5 : ai_find (ai_tab mDelta_inserted) 5 = some (.bipush 11, 7, 0, 0, 0, .int (nI 11), []) := rfl
theorem iDelta_inserted_7 : ai_find (ai_tab mDelta_inserted) 7 = some (.imul, 8, 0, 0, 0, .null, []) := rfl
theorem iDelta_inserted_8 : ai_find (ai_tab mDelta_inserted) 8 = some (.iconst 5, 9, 0, 0, 0, .int (nI 5), []) := rfl
theorem iDelta_inserted_9 : ai_find (ai_tab mDelta_inserted) 9 = some (.iadd, 10, 0, 0, 0, .null, []) := rfl
theorem iDelta_inserted_10 : ai_find (ai_tab mDelta_inserted) 10 = some (.iload_n 2, 11, 2, 0, 0, .null, []) := rfl
theorem iDelta_inserted_11 : ai_find (ai_tab mDelta_inserted) 11 = some (.iadd, 12, 0, 0, 0, .null, []) := rfl
theorem iDelta_inserted_12 : ai_find (ai_tab mDelta_inserted) 12 = some (.iaload, 13, 0, 0, 0, .null, []) := rfl
theorem iDelta_inserted_13 : ai_find (ai_tab mDelta_inserted) 13 = some (.ireturn, 14, 0, 0, 0, .null, []) := rfl
theorem iDelta_inserts_0 : ai_find (ai_tab mDelta_inserts) 0 = some (.aload_n 0, 1, 0, 0, 0, .null, []) := rfl
theorem iDelta_inserts_1 : ai_find (ai_tab mDelta_inserts) 1 = some (.getfield 11, 4, 1, 0, 0, .null, []) := rfl
theorem iDelta_inserts_4 : ai_find (ai_tab mDelta_inserts) 4 = some (.iload_n 1, 5, 1, 0, 0, .null, []) := rfl
theorem iDelta_inserts_5 : ai_find (ai_tab mDelta_inserts) 5 = some (.bipush 11, 7, 0, 0, 0, .int (nI 11), []) := rfl
theorem iDelta_inserts_7 : ai_find (ai_tab mDelta_inserts) 7 = some (.imul, 8, 0, 0, 0, .null, []) := rfl
theorem iDelta_inserts_8 : ai_find (ai_tab mDelta_inserts) 8 = some (.iconst 4, 9, 0, 0, 0, .int (nI 4), []) := rfl
theorem iDelta_inserts_9 : ai_find (ai_tab mDelta_inserts) 9 = some (.iadd, 10, 0, 0, 0, .null, []) := rfl
theorem iDelta_inserts_10 : ai_find (ai_tab mDelta_inserts) 10 = some (.iaload, 11, 0, 0, 0, .null, []) := rfl
theorem iDelta_inserts_11 : ai_find (ai_tab mDelta_inserts) 11 = some (.ireturn, 12, 0, 0, 0, .null, []) := rfl
theorem iDelta_isOn_0 : ai_find (ai_tab mDelta_isOn) 0 = some (.aload_n 0, 1, 0, 0, 0, .null, []) := rfl
theorem iDelta_isOn_1 : ai_find (ai_tab mDelta_isOn) 1 = some (.iload_n 1, 2, 1, 0, 0, .null, []) := rfl
theorem iDelta_isOn_2 : ai_find (ai_tab mDelta_isOn) 2 = some (.invokevirtual 23, 5, 31, 2, 1, .ref 1, []) := rfl
theorem iDelta_isOn_5 : ai_find (ai_tab mDelta_isOn) 5 = some (.iload_n 2, 6, 2, 0, 0, .null, []) := rfl
theorem iDelta_isOn_6 : ai_find (ai_tab mDelta_isOn) 6 = some (.if_icmp .ne 16, 9, 22, 0, 0, .null, []) := rfl
theorem iDelta_isOn_9 : ai_find (ai_tab mDelta_isOn) 9 = some (.aload_n 0, 10, 0, 0, 0, .null, []) := rfl
theorem iDelta_isOn_10 : ai_find (ai_tab mDelta_isOn) 10 = some (.iload_n 1, 11, 1, 0, 0, .null, []) := rfl
theorem iDelta_isOn_11 : ai_find (ai_tab mDelta_isOn) 11 = some (.invokevirtual 35, 14, 43, 2, 1, .ref 1, []) := rfl
theorem iDelta_isOn_14 : ai_find (ai_tab mDelta_isOn) 14 = some (.iload_n 3, 15, 3, 0, 0, .null, []) := rfl
theorem iDelta_isOn_15 : ai_find (ai_tab mDelta_isOn) 15 = some (.if_icmp .ne 7, 18, 22, 0, 0, .null, []) := rfl
theorem iDelta_isOn_18 : ai_find (ai_tab mDelta_isOn) 18 = some (.iconst 1, 19, 0, 0, 0, .int (nI 1), []) := rfl
theorem iDelta_isOn_19 : ai_find (ai_tab mDelta_isOn) 19 = some (.goto 4, 22, 23, 0, 0, .null, []) := rfl
theorem iDelta_isOn_22 : ai_find (ai_tab mDelta_isOn) 22 = some (.iconst 0, 23, 0, 0, 0, .int (nI 0), []) := rfl
theorem iDelta_isOn_23 : ai_find (ai_tab mDelta_isOn) 23 = some (.ireturn, 24, 1, 0, 0, .null, []) := rfl
theorem iDelta_matches_0 : ai_find (ai_tab mDelta_matches) 0 = some (.aload_n 0, 1, 0, 0, 0, .null, []) := rfl
theorem iDelta_matches_1 : ai_find (ai_tab mDelta_matches) 1 = some (.iload_n 1, 2, 1, 0, 0, .null, []) := rfl
theorem iDelta_matches_2 : ai_find (ai_tab mDelta_matches) 2 = some (.invokevirtual 19, 5, 49, 2, 1, .ref 1, []) := rfl
theorem iDelta_matches_5 : ai_find (ai_tab mDelta_matches) 5 = some (.aload_n 2, 6, 2, 0, 0, .null, []) := rfl
theorem iDelta_matches_6 : ai_find (ai_tab mDelta_matches) 6 = some (.iload_n 3, 7, 3, 0, 0, .null, []) := rfl
theorem iDelta_matches_7 : ai_find (ai_tab mDelta_matches) 7 = some (.invokevirtual 19, 10, 49, 2, 1, .ref 1, []) := rfl
theorem iDelta_matches_10 : ai_find (ai_tab mDelta_matches) 10 = some (.if_icmp .eq 5, 13, 15, 0, 0, .null, []) := rfl
theorem iDelta_matches_13 : ai_find (ai_tab mDelta_matches) 13 = some (.iconst 0, 14, 0, 0, 0, .int (nI 0), []) := rfl
theorem iDelta_matches_14 : ai_find (ai_tab mDelta_matches) 14 = some (.ireturn, 15, 1, 0, 0, .null, []) := rfl
theorem iDelta_matches_15 : ai_find (ai_tab mDelta_matches) 15 = some (.iconst 0, 16, 0, 0, 0, .int (nI 0), []) := rfl
theorem iDelta_matches_16 : ai_find (ai_tab mDelta_matches) 16 = some (.istore 4, 18, 4, 0, 0, .null, []) := rfl
theorem iDelta_matches_18 : ai_find (ai_tab mDelta_matches) 18 = some (.iload 4, 20, 4, 0, 0, .null, []) := rfl
theorem iDelta_matches_20 : ai_find (ai_tab mDelta_matches) 20 = some (.aload_n 0, 21, 0, 0, 0, .null, []) := rfl
theorem iDelta_matches_21 : ai_find (ai_tab mDelta_matches) 21 = some (.iload_n 1, 22, 1, 0, 0, .null, []) := rfl
theorem iDelta_matches_22 : ai_find (ai_tab mDelta_matches) 22 = some (.invokevirtual 19, 25, 49, 2, 1, .ref 1, []) := rfl
theorem iDelta_matches_25 : ai_find (ai_tab mDelta_matches) 25 = some (.if_icmp .ge 28, 28, 53, 0, 0, .null, []) := rfl
theorem iDelta_matches_28 : ai_find (ai_tab mDelta_matches) 28 = some (.aload_n 0, 29, 0, 0, 0, .null, []) := rfl
theorem iDelta_matches_29 : ai_find (ai_tab mDelta_matches) 29 = some (.iload_n 1, 30, 1, 0, 0, .null, []) := rfl
theorem iDelta_matches_30 : ai_find (ai_tab mDelta_matches) 30 = some (.iload 4, 32, 4, 0, 0, .null, []) := rfl
theorem iDelta_matches_32 : ai_find (ai_tab mDelta_matches) 32 = some (.invokevirtual 48, 35, 29, 3, 1, .ref 1, []) := rfl
theorem iDelta_matches_35 : ai_find (ai_tab mDelta_matches) 35 = some (.aload_n 2, 36, 2, 0, 0, .null, []) := rfl
theorem iDelta_matches_36 : ai_find (ai_tab mDelta_matches) 36 = some (.iload_n 3, 37, 3, 0, 0, .null, []) := rfl
theorem iDelta_matches_37 : ai_find (ai_tab mDelta_matches) 37 = some (.iload 4, 39, 4, 0, 0, .null, []) := rfl
theorem iDelta_matches_39 : ai_find (ai_tab mDelta_matches) 39 = some (.invokevirtual 48, 42, 29, 3, 1, .ref 1, []) := rfl
theorem iDelta_matches_42 : ai_find (ai_tab mDelta_matches) 42 = some (.if_icmp .eq 5, 45, 47, 0, 0, .null, []) := rfl
theorem iDelta_matches_45 : ai_find (ai_tab mDelta_matches) 45 = some (.iconst 0, 46, 0, 0, 0, .int (nI 0), []) := rfl
theorem iDelta_matches_46 : ai_find (ai_tab mDelta_matches) 46 = some (.ireturn, 47, 1, 0, 0, .null, []) := rfl
theorem iDelta_matches_47 : ai_find (ai_tab mDelta_matches) 47 = some (.iinc 4 1, 50, 4, 0, 0, .int (nI 1), []) := rfl
theorem iDelta_matches_50 : ai_find (ai_tab mDelta_matches) 50 = some (.goto (-32), 53, 18, 0, 0, .null, []) := rfl
theorem iDelta_matches_53 : ai_find (ai_tab mDelta_matches) 53 = some (.iconst 1, 54, 0, 0, 0, .int (nI 1), []) := rfl
theorem iDelta_matches_54 : ai_find (ai_tab mDelta_matches) 54 = some (.ireturn, 55, 1, 0, 0, .null, []) := rfl
theorem iDelta_object_0 : ai_find (ai_tab mDelta_object) 0 = some (.aload_n 0, 1, 0, 0, 0, .null, []) := rfl
theorem iDelta_object_1 : ai_find (ai_tab mDelta_object) 1 = some (.getfield 11, 4, 1, 0, 0, .null, []) := rfl
theorem iDelta_object_4 : ai_find (ai_tab mDelta_object) 4 = some (.iload_n 1, 5, 1, 0, 0, .null, []) := rfl
theorem iDelta_object_5 : ai_find (ai_tab mDelta_object) 5 = some (.bipush 11, 7, 0, 0, 0, .int (nI 11), []) := rfl
theorem iDelta_object_7 : ai_find (ai_tab mDelta_object) 7 = some (.imul, 8, 0, 0, 0, .null, []) := rfl
theorem iDelta_object_8 : ai_find (ai_tab mDelta_object) 8 = some (.iconst 1, 9, 0, 0, 0, .int (nI 1), []) := rfl
theorem iDelta_object_9 : ai_find (ai_tab mDelta_object) 9 = some (.iadd, 10, 0, 0, 0, .null, []) := rfl
theorem iDelta_object_10 : ai_find (ai_tab mDelta_object) 10 = some (.iaload, 11, 0, 0, 0, .null, []) := rfl
theorem iDelta_object_11 : ai_find (ai_tab mDelta_object) 11 = some (.ireturn, 12, 0, 0, 0, .null, []) := rfl
theorem iDelta_place_0 : ai_find (ai_tab mDelta_place) 0 = some (.aload_n 0, 1, 0, 0, 0, .null, []) := rfl
theorem iDelta_place_1 : ai_find (ai_tab mDelta_place) 1 = some (.getfield 11, 4, 1, 0, 0, .null, []) := rfl
theorem iDelta_place_4 : ai_find (ai_tab mDelta_place) 4 = some (.iload_n 1, 5, 1, 0, 0, .null, []) := rfl
theorem iDelta_place_5 : ai_find (ai_tab mDelta_place) 5 = some (.bipush 11, 7, 0, 0, 0, .int (nI 11), []) := rfl
theorem iDelta_place_7 : ai_find (ai_tab mDelta_place) 7 = some (.imul, 8, 0, 0, 0, .null, []) := rfl
theorem iDelta_place_8 : ai_find (ai_tab mDelta_place) 8 = some (.iconst 2, 9, 0, 0, 0, .int (nI 2), []) := rfl
theorem iDelta_place_9 : ai_find (ai_tab mDelta_place) 9 = some (.iadd, 10, 0, 0, 0, .null, []) := rfl
theorem iDelta_place_10 : ai_find (ai_tab mDelta_place) 10 = some (.iaload, 11, 0, 0, 0, .null, []) := rfl
theorem iDelta_place_11 : ai_find (ai_tab mDelta_place) 11 = some (.ireturn, 12, 0, 0, 0, .null, []) := rfl
theorem iDelta_rank_0 : ai_find (ai_tab mDelta_rank) 0 = some (.aload_n 0, 1, 0, 0, 0, .null, []) := rfl
theorem iDelta_rank_1 : ai_find (ai_tab mDelta_rank) 1 = some (.iload_n 1, 2, 1, 0, 0, .null, []) := rfl
theorem iDelta_rank_2 : ai_find (ai_tab mDelta_rank) 2 = some (.invokevirtual 23, 5, 31, 2, 1, .ref 1, []) := rfl
theorem iDelta_rank_5 : ai_find (ai_tab mDelta_rank) 5 = some (.iconst 1, 6, 0, 0, 0, .int (nI 1), []) := rfl
theorem iDelta_rank_6 : ai_find (ai_tab mDelta_rank) 6 = some (.if_icmp .ne 11, 9, 17, 0, 0, .null, []) := rfl
theorem iDelta_rank_9 : ai_find (ai_tab mDelta_rank) 9 = some (.aload_n 0, 10, 0, 0, 0, .null, []) := rfl
theorem iDelta_rank_10 : ai_find (ai_tab mDelta_rank) 10 = some (.iload_n 1, 11, 1, 0, 0, .null, []) := rfl
theorem iDelta_rank_11 : ai_find (ai_tab mDelta_rank) 11 = some (.invokevirtual 35, 14, 43, 2, 1, .ref 1, []) := rfl
theorem iDelta_rank_14 : ai_find (ai_tab mDelta_rank) 14 = some (.goto 20, 17, 34, 0, 0, .null, []) := rfl
theorem iDelta_rank_17 : ai_find (ai_tab mDelta_rank) 17 = some (.bipush 16, 19, 0, 0, 0, .int (nI 16), []) := rfl
theorem iDelta_rank_19 : ai_find (ai_tab mDelta_rank) 19 = some (.aload_n 0, 20, 0, 0, 0, .null, []) := rfl
theorem iDelta_rank_20 : ai_find (ai_tab mDelta_rank) 20 = some (.iload_n 1, 21, 1, 0, 0, .null, []) := rfl
theorem iDelta_rank_21 : ai_find (ai_tab mDelta_rank) 21 = some (.invokevirtual 35, 24, 43, 2, 1, .ref 1, []) := rfl
theorem iDelta_rank_24 : ai_find (ai_tab mDelta_rank) 24 = some (.bipush 7, 26, 0, 0, 0, .int (nI 7), []) := rfl
theorem iDelta_rank_26 : ai_find (ai_tab mDelta_rank) 26 = some (.imul, 27, 0, 0, 0, .null, []) := rfl
theorem iDelta_rank_27 : ai_find (ai_tab mDelta_rank) 27 = some (.iadd, 28, 0, 0, 0, .null, []) := rfl
theorem iDelta_rank_28 : ai_find (ai_tab mDelta_rank) 28 = some (.aload_n 0, 29, 0, 0, 0, .null, []) := rfl
theorem iDelta_rank_29 : ai_find (ai_tab mDelta_rank) 29 = some (.iload_n 1, 30, 1, 0, 0, .null, []) := rfl
theorem iDelta_rank_30 : ai_find (ai_tab mDelta_rank) 30 = some (.invokevirtual 29, 33, 44, 2, 1, .ref 1, []) := rfl
theorem iDelta_rank_33 : ai_find (ai_tab mDelta_rank) 33 = some (.iadd, 34, 0, 0, 0, .null, []) := rfl
theorem iDelta_rank_34 : ai_find (ai_tab mDelta_rank) 34 = some (.ireturn, 35, 0, 0, 0, .null, []) := rfl
theorem iDelta_size_0 : ai_find (ai_tab mDelta_size) 0 = some (.aload_n 0, 1, 0, 0, 0, .null, []) := rfl
theorem iDelta_size_1 : ai_find (ai_tab mDelta_size) 1 = some (.getfield 15, 4, 1, 1, 0, .null, []) := rfl
theorem iDelta_size_4 : ai_find (ai_tab mDelta_size) 4 = some (.ireturn, 5, 0, 0, 0, .null, []) := rfl
theorem iDelta_suitsItsCreate_0 : ai_find (ai_tab mDelta_suitsItsCreate) 0 = some (.aload_n 0, 1, 0, 0, 0, .null, []) := rfl
theorem iDelta_suitsItsCreate_1 : ai_find (ai_tab mDelta_suitsItsCreate) 1 = some (.iload_n 1, 2, 1, 0, 0, .null, []) := rfl
theorem iDelta_suitsItsCreate_2 : ai_find (ai_tab mDelta_suitsItsCreate) 2 = some (.invokevirtual 23, 5, 31, 2, 1, .ref 1, []) := rfl
theorem iDelta_suitsItsCreate_5 : ai_find (ai_tab mDelta_suitsItsCreate) 5 = some (.iconst 2, 6, 0, 0, 0, .int (nI 2), []) := rfl
theorem iDelta_suitsItsCreate_6 : ai_find (ai_tab mDelta_suitsItsCreate) 6 = some (.if_icmp .ne 7, 9, 13, 0, 0, .null, []) := rfl
theorem iDelta_suitsItsCreate_9 : ai_find (ai_tab mDelta_suitsItsCreate) 9 = some (.iconst 1, 10, 0, 0, 0, .int (nI 1), []) := rfl
theorem iDelta_suitsItsCreate_10 : ai_find (ai_tab mDelta_suitsItsCreate) 10 = some (.goto 4, 13, 14, 0, 0, .null, []) := rfl
theorem iDelta_suitsItsCreate_13 : ai_find (ai_tab mDelta_suitsItsCreate) 13 = some (.iconst 0, 14, 0, 0, 0, .int (nI 0), []) := rfl
theorem iDelta_suitsItsCreate_14 : ai_find (ai_tab mDelta_suitsItsCreate) 14 = some (.istore_n 2, 15, 2, 0, 0, .null, []) := rfl
theorem iDelta_suitsItsCreate_15 : ai_find (ai_tab mDelta_suitsItsCreate) 15 = some (.aload_n 0, 16, 0, 0, 0, .null, []) := rfl
theorem iDelta_suitsItsCreate_16 : ai_find (ai_tab mDelta_suitsItsCreate) 16 = some (.aload_n 0, 17, 0, 0, 0, .null, []) := rfl
theorem iDelta_suitsItsCreate_17 : ai_find (ai_tab mDelta_suitsItsCreate) 17 = some (.iload_n 1, 18, 1, 0, 0, .null, []) := rfl
theorem iDelta_suitsItsCreate_18 : ai_find (ai_tab mDelta_suitsItsCreate) 18 = some (.invokevirtual 35, 21, 43, 2, 1, .ref 1, []) := rfl
theorem iDelta_suitsItsCreate_21 : ai_find (ai_tab mDelta_suitsItsCreate) 21 = some (.invokevirtual 60, 24, 33, 2, 1, .ref 1, []) := rfl
theorem iDelta_suitsItsCreate_24 : ai_find (ai_tab mDelta_suitsItsCreate) 24 = some (.iload_n 2, 25, 2, 0, 0, .null, []) := rfl
theorem iDelta_suitsItsCreate_25 : ai_find (ai_tab mDelta_suitsItsCreate) 25 = some (.if_icmp .eq 7, 28, 32, 0, 0, .null, []) := rfl
theorem iDelta_suitsItsCreate_28 : ai_find (ai_tab mDelta_suitsItsCreate) 28 = some (.iconst 1, 29, 0, 0, 0, .int (nI 1), []) := rfl
theorem iDelta_suitsItsCreate_29 : ai_find (ai_tab mDelta_suitsItsCreate) 29 = some (.goto 4, 32, 33, 0, 0, .null, []) := rfl
theorem iDelta_suitsItsCreate_32 : ai_find (ai_tab mDelta_suitsItsCreate) 32 = some (.iconst 0, 33, 0, 0, 0, .int (nI 0), []) := rfl
theorem iDelta_suitsItsCreate_33 : ai_find (ai_tab mDelta_suitsItsCreate) 33 = some (.ireturn, 34, 1, 0, 0, .null, []) := rfl
theorem iDelta_tag_0 : ai_find (ai_tab mDelta_tag) 0 = some (.aload_n 0, 1, 0, 0, 0, .null, []) := rfl
theorem iDelta_tag_1 : ai_find (ai_tab mDelta_tag) 1 = some (.getfield 11, 4, 1, 0, 0, .null, []) := rfl
theorem iDelta_tag_4 : ai_find (ai_tab mDelta_tag) 4 = some (.iload_n 1, 5, 1, 0, 0, .null, []) := rfl
theorem iDelta_tag_5 : ai_find (ai_tab mDelta_tag) 5 = some (.bipush 11, 7, 0, 0, 0, .int (nI 11), []) := rfl
theorem iDelta_tag_7 : ai_find (ai_tab mDelta_tag) 7 = some (.imul, 8, 0, 0, 0, .null, []) := rfl
theorem iDelta_tag_8 : ai_find (ai_tab mDelta_tag) 8 = some (.iconst 3, 9, 0, 0, 0, .int (nI 3), []) := rfl
theorem iDelta_tag_9 : ai_find (ai_tab mDelta_tag) 9 = some (.iadd, 10, 0, 0, 0, .null, []) := rfl
theorem iDelta_tag_10 : ai_find (ai_tab mDelta_tag) 10 = some (.iaload, 11, 0, 0, 0, .null, []) := rfl
theorem iDelta_tag_11 : ai_find (ai_tab mDelta_tag) 11 = some (.ireturn, 12, 0, 0, 0, .null, []) := rfl
theorem iDelta_width_0 : ai_find (ai_tab mDelta_width) 0 = some (.aload_n 0, 1, 0, 0, 0, .null, []) := rfl
theorem iDelta_width_1 : ai_find (ai_tab mDelta_width) 1 = some (.iload_n 1, 2, 1, 0, 0, .null, []) := rfl
theorem iDelta_width_2 : ai_find (ai_tab mDelta_width) 2 = some (.invokevirtual 23, 5, 31, 2, 1, .ref 1, []) := rfl
theorem iDelta_width_5 : ai_find (ai_tab mDelta_width) 5 = some (.lookupswitch 31 #[(1, 27), (2, 29)], 32, 36, 0, 0, .null, [(nI 1, 32), (nI 2, 34)]) := rfl
theorem iDelta_width_32 : ai_find (ai_tab mDelta_width) 32 = some (.iconst 3, 33, 0, 0, 0, .int (nI 3), []) := rfl
theorem iDelta_width_33 : ai_find (ai_tab mDelta_width) 33 = some (.ireturn, 34, 0, 0, 0, .null, []) := rfl
theorem iDelta_width_34 : ai_find (ai_tab mDelta_width) 34 = some (.iconst 5, 35, 0, 0, 0, .int (nI 5), []) := rfl
theorem iDelta_width_35 : ai_find (ai_tab mDelta_width) 35 = some (.ireturn, 36, 0, 0, 0, .null, []) := rfl
theorem iDelta_width_36 : ai_find (ai_tab mDelta_width) 36 = some (.iconst 5, 37, 0, 0, 0, .int (nI 5), []) := rfl
theorem iDelta_width_37 : ai_find (ai_tab mDelta_width) 37 = some (.aload_n 0, 38, 0, 0, 0, .null, []) := rfl
theorem iDelta_width_38 : ai_find (ai_tab mDelta_width) 38 = some (.iload_n 1, 39, 1, 0, 0, .null, []) := rfl
theorem iDelta_width_39 : ai_find (ai_tab mDelta_width) 39 = some (.invokevirtual 26, 42, 40, 2, 1, .ref 1, []) := rfl
theorem iDelta_width_42 : ai_find (ai_tab mDelta_width) 42 = some (.iadd, 43, 0, 0, 0, .null, []) := rfl
theorem iDelta_width_43 : ai_find (ai_tab mDelta_width) 43 = some (.ireturn, 44, 0, 0, 0, .null, []) := rfl
theorem iDifference_init_0 : ai_find (ai_tab mDifference_init) 0 = some (.aload_n 0, 1, 0, 0, 0, .null, []) := rfl
theorem iDifference_init_1 : ai_find (ai_tab mDifference_init) 1 = some (.invokespecial 3, 4, 0, 1, 3, .null, []) := rfl
theorem iDifference_init_4 : ai_find (ai_tab mDifference_init) 4 = some (.aload_n 0, 5, 0, 0, 0, .null, []) := rfl
theorem iDifference_init_5 : ai_find (ai_tab mDifference_init) 5 = some (.bipush 6, 7, 0, 0, 0, .int (nI 6), []) := rfl
theorem iDifference_init_7 : ai_find (ai_tab mDifference_init) 7 = some (.newarray .int, 9, 0, 0, 0, .null, []) := rfl
theorem iDifference_init_9 : ai_find (ai_tab mDifference_init) 9 = some (.putfield 9, 12, 2, 0, 3, .null, []) := rfl
theorem iDifference_init_12 : ai_find (ai_tab mDifference_init) 12 = some (.aload_n 0, 13, 0, 0, 0, .null, []) := rfl
theorem iDifference_init_13 : ai_find (ai_tab mDifference_init) 13 = some (.bipush 6, 15, 0, 0, 0, .int (nI 6), []) := rfl
theorem iDifference_init_15 : ai_find (ai_tab mDifference_init) 15 = some (.newarray .int, 17, 0, 0, 0, .null, []) := rfl
theorem iDifference_init_17 : ai_find (ai_tab mDifference_init) 17 = some (.putfield 15, 20, 2, 1, 3, .null, []) := rfl
theorem iDifference_init_20 : ai_find (ai_tab mDifference_init) 20 = some (.aload_n 0, 21, 0, 0, 0, .null, []) := rfl
theorem iDifference_init_21 : ai_find (ai_tab mDifference_init) 21 = some (.bipush 49, 23, 0, 0, 0, .int (nI 49), []) := rfl
theorem iDifference_init_23 : ai_find (ai_tab mDifference_init) 23 = some (.newarray .int, 25, 0, 0, 0, .null, []) := rfl
theorem iDifference_init_25 : ai_find (ai_tab mDifference_init) 25 = some (.putfield 18, 28, 2, 4, 3, .null, []) := rfl
theorem iDifference_init_28 : ai_find (ai_tab mDifference_init) 28 = some (.return_, 29, 0, 0, 0, .null, []) := rfl
theorem iDifference_addGap_0 : ai_find (ai_tab mDifference_addGap) 0 = some (.iload_n 2, 1, 2, 0, 0, .null, []) := rfl
theorem iDifference_addGap_1 : ai_find (ai_tab mDifference_addGap) 1 = some (.iload_n 3, 2, 3, 0, 0, .null, []) := rfl
theorem iDifference_addGap_2 : ai_find (ai_tab mDifference_addGap) 2 = some (.if_icmp .ne 11, 5, 13, 0, 0, .null, []) := rfl
theorem iDifference_addGap_5 : ai_find (ai_tab mDifference_addGap) 5 = some (.iload 4, 7, 4, 0, 0, .null, []) := rfl
theorem iDifference_addGap_7 : ai_find (ai_tab mDifference_addGap) 7 = some (.iload 5, 9, 5, 0, 0, .null, []) := rfl
theorem iDifference_addGap_9 : ai_find (ai_tab mDifference_addGap) 9 = some (.if_icmp .ne 4, 12, 13, 0, 0, .null, []) := rfl
theorem iDifference_addGap_12 : ai_find (ai_tab mDifference_addGap) 12 = some (.return_, 13, 0, 0, 0, .null, []) := rfl
theorem iDifference_addGap_13 : ai_find (ai_tab mDifference_addGap) 13 = some (.aload 6, 15, 6, 0, 0, .null, []) := rfl
theorem iDifference_addGap_15 : ai_find (ai_tab mDifference_addGap) 15 = some (.iload_n 1, 16, 1, 0, 0, .null, []) := rfl
theorem iDifference_addGap_16 : ai_find (ai_tab mDifference_addGap) 16 = some (.iload_n 2, 17, 2, 0, 0, .null, []) := rfl
theorem iDifference_addGap_17 : ai_find (ai_tab mDifference_addGap) 17 = some (.iload_n 3, 18, 3, 0, 0, .null, []) := rfl
theorem iDifference_addGap_18 : ai_find (ai_tab mDifference_addGap) 18 = some (.iload_n 2, 19, 2, 0, 0, .null, []) := rfl
theorem iDifference_addGap_19 : ai_find (ai_tab mDifference_addGap) 19 = some (.isub, 20, 0, 0, 0, .null, []) := rfl
theorem iDifference_addGap_20 : ai_find (ai_tab mDifference_addGap) 20 = some (.invokevirtual 104, 23, 28, 4, 1, .ref 1, []) := rfl
theorem iDifference_addGap_23 : ai_find (ai_tab mDifference_addGap) 23 = some (.iload 4, 25, 4, 0, 0, .null, []) := rfl
theorem iDifference_addGap_25 : ai_find (ai_tab mDifference_addGap) 25 = some (.istore 7, 27, 7, 0, 0, .null, []) := rfl
theorem iDifference_addGap_27 : ai_find (ai_tab mDifference_addGap) 27 = some (.iload 7, 29, 7, 0, 0, .null, []) := rfl
theorem iDifference_addGap_29 : ai_find (ai_tab mDifference_addGap) 29 = some (.iload 5, 31, 5, 0, 0, .null, []) := rfl
theorem iDifference_addGap_31 : ai_find (ai_tab mDifference_addGap) 31 = some (.if_icmp .ge 21, 34, 52, 0, 0, .null, []) := rfl
theorem iDifference_addGap_34 : ai_find (ai_tab mDifference_addGap) 34 = some (.aload 6, 36, 6, 0, 0, .null, []) := rfl
theorem iDifference_addGap_36 : ai_find (ai_tab mDifference_addGap) 36 = some (.aload_n 0, 37, 0, 0, 0, .null, []) := rfl
theorem iDifference_addGap_37 : ai_find (ai_tab mDifference_addGap) 37 = some (.getfield 15, 40, 2, 1, 0, .null, []) := rfl
theorem iDifference_addGap_40 : ai_find (ai_tab mDifference_addGap) 40 = some (.iload 7, 42, 7, 0, 0, .null, []) := rfl
theorem iDifference_addGap_42 : ai_find (ai_tab mDifference_addGap) 42 = some (.iaload, 43, 0, 0, 0, .null, []) := rfl
theorem iDifference_addGap_43 : ai_find (ai_tab mDifference_addGap) 43 = some (.invokevirtual 108, 46, 26, 2, 1, .ref 1, []) := rfl
theorem iDifference_addGap_46 : ai_find (ai_tab mDifference_addGap) 46 = some (.iinc 7 1, 49, 7, 0, 0, .int (nI 1), []) := rfl
theorem iDifference_addGap_49 : ai_find (ai_tab mDifference_addGap) 49 = some (.goto (-22), 52, 27, 0, 0, .null, []) := rfl
theorem iDifference_addGap_52 : ai_find (ai_tab mDifference_addGap) 52 = some (.return_, 53, 0, 0, 0, .null, []) := rfl
theorem iDifference_addSets_0 : ai_find (ai_tab mDifference_addSets) 0 = some (.iconst 0, 1, 0, 0, 0, .int (nI 0), []) := rfl
theorem iDifference_addSets_1 : ai_find (ai_tab mDifference_addSets) 1 = some (.istore 4, 3, 4, 0, 0, .null, []) := rfl
theorem iDifference_addSets_3 : ai_find (ai_tab mDifference_addSets) 3 = some (.iload 4, 5, 4, 0, 0, .null, []) := rfl
theorem iDifference_addSets_5 : ai_find (ai_tab mDifference_addSets) 5 = some (.iconst 3, 6, 0, 0, 0, .int (nI 3), []) := rfl
theorem iDifference_addSets_6 : ai_find (ai_tab mDifference_addSets) 6 = some (.if_icmp .ge 64, 9, 70, 0, 0, .null, []) := rfl
theorem iDifference_addSets_9 : ai_find (ai_tab mDifference_addSets) 9 = some (.aload_n 0, 10, 0, 0, 0, .null, []) := rfl
theorem iDifference_addSets_10 : ai_find (ai_tab mDifference_addSets) 10 = some (.iload_n 2, 11, 2, 0, 0, .null, []) := rfl
theorem iDifference_addSets_11 : ai_find (ai_tab mDifference_addSets) 11 = some (.iload 4, 13, 4, 0, 0, .null, []) := rfl
theorem iDifference_addSets_13 : ai_find (ai_tab mDifference_addSets) 13 = some (.invokevirtual 58, 16, 91, 3, 1, .ref 4, []) := rfl
theorem iDifference_addSets_16 : ai_find (ai_tab mDifference_addSets) 16 = some (.aload_n 1, 17, 1, 0, 0, .null, []) := rfl
theorem iDifference_addSets_17 : ai_find (ai_tab mDifference_addSets) 17 = some (.iload_n 2, 18, 2, 0, 0, .null, []) := rfl
theorem iDifference_addSets_18 : ai_find (ai_tab mDifference_addSets) 18 = some (.iload 4, 20, 4, 0, 0, .null, []) := rfl
theorem iDifference_addSets_20 : ai_find (ai_tab mDifference_addSets) 20 = some (.invokevirtual 58, 23, 91, 3, 1, .ref 4, []) := rfl
theorem iDifference_addSets_23 : ai_find (ai_tab mDifference_addSets) 23 = some (.if_icmp .ne 20, 26, 43, 0, 0, .null, []) := rfl
theorem iDifference_addSets_26 : ai_find (ai_tab mDifference_addSets) 26 = some (.aload_n 0, 27, 0, 0, 0, .null, []) := rfl
theorem iDifference_addSets_27 : ai_find (ai_tab mDifference_addSets) 27 = some (.iload_n 2, 28, 2, 0, 0, .null, []) := rfl
theorem iDifference_addSets_28 : ai_find (ai_tab mDifference_addSets) 28 = some (.iload 4, 30, 4, 0, 0, .null, []) := rfl
theorem iDifference_addSets_30 : ai_find (ai_tab mDifference_addSets) 30 = some (.invokevirtual 62, 33, 75, 3, 1, .ref 4, []) := rfl
theorem iDifference_addSets_33 : ai_find (ai_tab mDifference_addSets) 33 = some (.aload_n 1, 34, 1, 0, 0, .null, []) := rfl
theorem iDifference_addSets_34 : ai_find (ai_tab mDifference_addSets) 34 = some (.iload_n 2, 35, 2, 0, 0, .null, []) := rfl
theorem iDifference_addSets_35 : ai_find (ai_tab mDifference_addSets) 35 = some (.iload 4, 37, 4, 0, 0, .null, []) := rfl
theorem iDifference_addSets_37 : ai_find (ai_tab mDifference_addSets) 37 = some (.invokevirtual 62, 40, 75, 3, 1, .ref 4, []) := rfl
theorem iDifference_addSets_40 : ai_find (ai_tab mDifference_addSets) 40 = some (.if_icmp .eq 24, 43, 64, 0, 0, .null, []) := rfl
theorem iDifference_addSets_43 : ai_find (ai_tab mDifference_addSets) 43 = some (.aload_n 3, 44, 3, 0, 0, .null, []) := rfl
theorem iDifference_addSets_44 : ai_find (ai_tab mDifference_addSets) 44 = some (.iload_n 2, 45, 2, 0, 0, .null, []) := rfl
theorem iDifference_addSets_45 : ai_find (ai_tab mDifference_addSets) 45 = some (.iload 4, 47, 4, 0, 0, .null, []) := rfl
theorem iDifference_addSets_47 : ai_find (ai_tab mDifference_addSets) 47 = some (.aload_n 1, 48, 1, 0, 0, .null, []) := rfl
theorem iDifference_addSets_48 : ai_find (ai_tab mDifference_addSets) 48 = some (.iload_n 2, 49, 2, 0, 0, .null, []) := rfl
theorem iDifference_addSets_49 : ai_find (ai_tab mDifference_addSets) 49 = some (.iload 4, 51, 4, 0, 0, .null, []) := rfl
theorem iDifference_addSets_51 : ai_find (ai_tab mDifference_addSets) 51 = some (.invokevirtual 58, 54, 91, 3, 1, .ref 4, []) := rfl
theorem iDifference_addSets_54 : ai_find (ai_tab mDifference_addSets) 54 = some (.aload_n 1, 55, 1, 0, 0, .null, []) := rfl
theorem iDifference_addSets_55 : ai_find (ai_tab mDifference_addSets) 55 = some (.iload_n 2, 56, 2, 0, 0, .null, []) := rfl
theorem iDifference_addSets_56 : ai_find (ai_tab mDifference_addSets) 56 = some (.iload 4, 58, 4, 0, 0, .null, []) := rfl
theorem iDifference_addSets_58 : ai_find (ai_tab mDifference_addSets) 58 = some (.invokevirtual 62, 61, 75, 3, 1, .ref 4, []) := rfl
theorem iDifference_addSets_61 : ai_find (ai_tab mDifference_addSets) 61 = some (.invokevirtual 65, 64, 27, 5, 1, .ref 1, []) := rfl
theorem iDifference_addSets_64 : ai_find (ai_tab mDifference_addSets) 64 = some (.iinc 4 1, 67, 4, 0, 0, .int (nI 1), []) := rfl
theorem iDifference_addSets_67 : ai_find (ai_tab mDifference_addSets) 67 = some (.goto (-64), 70, 3, 0, 0, .null, []) := rfl
theorem iDifference_addSets_70 : ai_find (ai_tab mDifference_addSets) 70 = some (.return_, 71, 0, 0, 0, .null, []) := rfl
theorem iDifference_addSplices_0 : ai_find (ai_tab mDifference_addSplices) 0 = some (.iconst 0, 1, 0, 0, 0, .int (nI 0), []) := rfl
theorem iDifference_addSplices_1 : ai_find (ai_tab mDifference_addSplices) 1 = some (.istore_n 3, 2, 3, 0, 0, .null, []) := rfl
theorem iDifference_addSplices_2 : ai_find (ai_tab mDifference_addSplices) 2 = some (.iconst 0, 3, 0, 0, 0, .int (nI 0), []) := rfl
theorem iDifference_addSplices_3 : ai_find (ai_tab mDifference_addSplices) 3 = some (.istore 4, 5, 4, 0, 0, .null, []) := rfl
theorem iDifference_addSplices_5 : ai_find (ai_tab mDifference_addSplices) 5 = some (.iconst 0, 6, 0, 0, 0, .int (nI 0), []) := rfl
theorem iDifference_addSplices_6 : ai_find (ai_tab mDifference_addSplices) 6 = some (.istore 5, 8, 5, 0, 0, .null, []) := rfl
theorem iDifference_addSplices_8 : ai_find (ai_tab mDifference_addSplices) 8 = some (.iload 5, 10, 5, 0, 0, .null, []) := rfl
theorem iDifference_addSplices_10 : ai_find (ai_tab mDifference_addSplices) 10 = some (.aload_n 0, 11, 0, 0, 0, .null, []) := rfl
theorem iDifference_addSplices_11 : ai_find (ai_tab mDifference_addSplices) 11 = some (.getfield 72, 14, 2, 2, 0, .null, []) := rfl
theorem iDifference_addSplices_14 : ai_find (ai_tab mDifference_addSplices) 14 = some (.if_icmp .ge 56, 17, 70, 0, 0, .null, []) := rfl
theorem iDifference_addSplices_17 : ai_find (ai_tab mDifference_addSplices) 17 = some (.aload_n 0, 18, 0, 0, 0, .null, []) := rfl
theorem iDifference_addSplices_18 : ai_find (ai_tab mDifference_addSplices) 18 = some (.iload 5, 20, 5, 0, 0, .null, []) := rfl
theorem iDifference_addSplices_20 : ai_find (ai_tab mDifference_addSplices) 20 = some (.iload 4, 22, 4, 0, 0, .null, []) := rfl
theorem iDifference_addSplices_22 : ai_find (ai_tab mDifference_addSplices) 22 = some (.aload_n 0, 23, 0, 0, 0, .null, []) := rfl
theorem iDifference_addSplices_23 : ai_find (ai_tab mDifference_addSplices) 23 = some (.iload_n 3, 24, 3, 0, 0, .null, []) := rfl
theorem iDifference_addSplices_24 : ai_find (ai_tab mDifference_addSplices) 24 = some (.iload 4, 26, 4, 0, 0, .null, []) := rfl
theorem iDifference_addSplices_26 : ai_find (ai_tab mDifference_addSplices) 26 = some (.invokevirtual 88, 29, 57, 3, 1, .ref 2, []) := rfl
theorem iDifference_addSplices_29 : ai_find (ai_tab mDifference_addSplices) 29 = some (.invokevirtual 96, 32, 56, 4, 1, .ref 2, []) := rfl
theorem iDifference_addSplices_32 : ai_find (ai_tab mDifference_addSplices) 32 = some (.istore 6, 34, 6, 0, 0, .null, []) := rfl
theorem iDifference_addSplices_34 : ai_find (ai_tab mDifference_addSplices) 34 = some (.iload 6, 36, 6, 0, 0, .null, []) := rfl
theorem iDifference_addSplices_36 : ai_find (ai_tab mDifference_addSplices) 36 = some (.iconst (-1), 37, 0, 0, 0, .int (-1), []) := rfl
theorem iDifference_addSplices_37 : ai_find (ai_tab mDifference_addSplices) 37 = some (.if_icmp .eq 27, 40, 64, 0, 0, .null, []) := rfl
theorem iDifference_addSplices_40 : ai_find (ai_tab mDifference_addSplices) 40 = some (.aload_n 0, 41, 0, 0, 0, .null, []) := rfl
theorem iDifference_addSplices_41 : ai_find (ai_tab mDifference_addSplices) 41 = some (.iload_n 1, 42, 1, 0, 0, .null, []) := rfl
theorem iDifference_addSplices_42 : ai_find (ai_tab mDifference_addSplices) 42 = some (.iload_n 3, 43, 3, 0, 0, .null, []) := rfl
theorem iDifference_addSplices_43 : ai_find (ai_tab mDifference_addSplices) 43 = some (.iload 5, 45, 5, 0, 0, .null, []) := rfl
theorem iDifference_addSplices_45 : ai_find (ai_tab mDifference_addSplices) 45 = some (.iload 4, 47, 4, 0, 0, .null, []) := rfl
theorem iDifference_addSplices_47 : ai_find (ai_tab mDifference_addSplices) 47 = some (.iload 6, 49, 6, 0, 0, .null, []) := rfl
theorem iDifference_addSplices_49 : ai_find (ai_tab mDifference_addSplices) 49 = some (.aload_n 2, 50, 2, 0, 0, .null, []) := rfl
theorem iDifference_addSplices_50 : ai_find (ai_tab mDifference_addSplices) 50 = some (.invokevirtual 100, 53, 51, 7, 1, .ref 2, []) := rfl
theorem iDifference_addSplices_53 : ai_find (ai_tab mDifference_addSplices) 53 = some (.iload 5, 55, 5, 0, 0, .null, []) := rfl
theorem iDifference_addSplices_55 : ai_find (ai_tab mDifference_addSplices) 55 = some (.iconst 1, 56, 0, 0, 0, .int (nI 1), []) := rfl
theorem iDifference_addSplices_56 : ai_find (ai_tab mDifference_addSplices) 56 = some (.iadd, 57, 0, 0, 0, .null, []) := rfl
theorem iDifference_addSplices_57 : ai_find (ai_tab mDifference_addSplices) 57 = some (.istore_n 3, 58, 3, 0, 0, .null, []) := rfl
theorem iDifference_addSplices_58 : ai_find (ai_tab mDifference_addSplices) 58 = some (.iload 6, 60, 6, 0, 0, .null, []) := rfl
theorem iDifference_addSplices_60 : ai_find (ai_tab mDifference_addSplices) 60 = some (.iconst 1, 61, 0, 0, 0, .int (nI 1), []) := rfl
theorem iDifference_addSplices_61 : ai_find (ai_tab mDifference_addSplices) 61 = some (.iadd, 62, 0, 0, 0, .null, []) := rfl
theorem iDifference_addSplices_62 : ai_find (ai_tab mDifference_addSplices) 62 = some (.istore 4, 64, 4, 0, 0, .null, []) := rfl
theorem iDifference_addSplices_64 : ai_find (ai_tab mDifference_addSplices) 64 = some (.iinc 5 1, 67, 5, 0, 0, .int (nI 1), []) := rfl
theorem iDifference_addSplices_67 : ai_find (ai_tab mDifference_addSplices) 67 = some (.goto (-59), 70, 8, 0, 0, .null, []) := rfl
theorem iDifference_addSplices_70 : ai_find (ai_tab mDifference_addSplices) 70 = some (.aload_n 0, 71, 0, 0, 0, .null, []) := rfl
theorem iDifference_addSplices_71 : ai_find (ai_tab mDifference_addSplices) 71 = some (.iload_n 1, 72, 1, 0, 0, .null, []) := rfl
theorem iDifference_addSplices_72 : ai_find (ai_tab mDifference_addSplices) 72 = some (.iload_n 3, 73, 3, 0, 0, .null, []) := rfl
theorem iDifference_addSplices_73 : ai_find (ai_tab mDifference_addSplices) 73 = some (.aload_n 0, 74, 0, 0, 0, .null, []) := rfl
theorem iDifference_addSplices_74 : ai_find (ai_tab mDifference_addSplices) 74 = some (.getfield 72, 77, 2, 2, 0, .null, []) := rfl
theorem iDifference_addSplices_77 : ai_find (ai_tab mDifference_addSplices) 77 = some (.iload 4, 79, 4, 0, 0, .null, []) := rfl
theorem iDifference_addSplices_79 : ai_find (ai_tab mDifference_addSplices) 79 = some (.aload_n 0, 80, 0, 0, 0, .null, []) := rfl
theorem iDifference_addSplices_80 : ai_find (ai_tab mDifference_addSplices) 80 = some (.getfield 76, 83, 2, 3, 0, .null, []) := rfl
theorem iDifference_addSplices_83 : ai_find (ai_tab mDifference_addSplices) 83 = some (.aload_n 2, 84, 2, 0, 0, .null, []) := rfl
theorem iDifference_addSplices_84 : ai_find (ai_tab mDifference_addSplices) 84 = some (.invokevirtual 100, 87, 51, 7, 1, .ref 2, []) := rfl
theorem iDifference_addSplices_87 : ai_find (ai_tab mDifference_addSplices) 87 = some (.return_, 88, 0, 0, 0, .null, []) := rfl
theorem iDifference_countPairs_0 : ai_find (ai_tab mDifference_countPairs) 0 = some (.aload_n 0, 1, 0, 0, 0, .null, []) := rfl
theorem iDifference_countPairs_1 : ai_find (ai_tab mDifference_countPairs) 1 = some (.getfield 18, 4, 2, 4, 0, .null, []) := rfl
theorem iDifference_countPairs_4 : ai_find (ai_tab mDifference_countPairs) 4 = some (.iconst 0, 5, 0, 0, 0, .int (nI 0), []) := rfl
theorem iDifference_countPairs_5 : ai_find (ai_tab mDifference_countPairs) 5 = some (.invokestatic 82, 8, 180, 2, 0, .null, []) := rfl
theorem iDifference_countPairs_8 : ai_find (ai_tab mDifference_countPairs) 8 = some (.aload_n 0, 9, 0, 0, 0, .null, []) := rfl
theorem iDifference_countPairs_9 : ai_find (ai_tab mDifference_countPairs) 9 = some (.getfield 72, 12, 2, 2, 0, .null, []) := rfl
theorem iDifference_countPairs_12 : ai_find (ai_tab mDifference_countPairs) 12 = some (.iconst 1, 13, 0, 0, 0, .int (nI 1), []) := rfl
theorem iDifference_countPairs_13 : ai_find (ai_tab mDifference_countPairs) 13 = some (.isub, 14, 0, 0, 0, .null, []) := rfl
theorem iDifference_countPairs_14 : ai_find (ai_tab mDifference_countPairs) 14 = some (.istore_n 1, 15, 1, 0, 0, .null, []) := rfl
theorem iDifference_countPairs_15 : ai_find (ai_tab mDifference_countPairs) 15 = some (.iload_n 1, 16, 1, 0, 0, .null, []) := rfl
theorem iDifference_countPairs_16 : ai_find (ai_tab mDifference_countPairs) 16 = some (.ifCond .lt 96, 19, 112, 0, 0, .null, []) := rfl
theorem iDifference_countPairs_19 : ai_find (ai_tab mDifference_countPairs) 19 = some (.aload_n 0, 20, 0, 0, 0, .null, []) := rfl
theorem iDifference_countPairs_20 : ai_find (ai_tab mDifference_countPairs) 20 = some (.getfield 76, 23, 2, 3, 0, .null, []) := rfl
theorem iDifference_countPairs_23 : ai_find (ai_tab mDifference_countPairs) 23 = some (.iconst 1, 24, 0, 0, 0, .int (nI 1), []) := rfl
theorem iDifference_countPairs_24 : ai_find (ai_tab mDifference_countPairs) 24 = some (.isub, 25, 0, 0, 0, .null, []) := rfl
theorem iDifference_countPairs_25 : ai_find (ai_tab mDifference_countPairs) 25 = some (.istore_n 2, 26, 2, 0, 0, .null, []) := rfl
theorem iDifference_countPairs_26 : ai_find (ai_tab mDifference_countPairs) 26 = some (.iload_n 2, 27, 2, 0, 0, .null, []) := rfl
theorem iDifference_countPairs_27 : ai_find (ai_tab mDifference_countPairs) 27 = some (.ifCond .lt 79, 30, 106, 0, 0, .null, []) := rfl
theorem iDifference_countPairs_30 : ai_find (ai_tab mDifference_countPairs) 30 = some (.aload_n 0, 31, 0, 0, 0, .null, []) := rfl
theorem iDifference_countPairs_31 : ai_find (ai_tab mDifference_countPairs) 31 = some (.iload_n 1, 32, 1, 0, 0, .null, []) := rfl
theorem iDifference_countPairs_32 : ai_find (ai_tab mDifference_countPairs) 32 = some (.iconst 1, 33, 0, 0, 0, .int (nI 1), []) := rfl
theorem iDifference_countPairs_33 : ai_find (ai_tab mDifference_countPairs) 33 = some (.iadd, 34, 0, 0, 0, .null, []) := rfl
theorem iDifference_countPairs_34 : ai_find (ai_tab mDifference_countPairs) 34 = some (.iload_n 2, 35, 2, 0, 0, .null, []) := rfl
theorem iDifference_countPairs_35 : ai_find (ai_tab mDifference_countPairs) 35 = some (.invokevirtual 88, 38, 57, 3, 1, .ref 2, []) := rfl
theorem iDifference_countPairs_38 : ai_find (ai_tab mDifference_countPairs) 38 = some (.aload_n 0, 39, 0, 0, 0, .null, []) := rfl
theorem iDifference_countPairs_39 : ai_find (ai_tab mDifference_countPairs) 39 = some (.iload_n 1, 40, 1, 0, 0, .null, []) := rfl
theorem iDifference_countPairs_40 : ai_find (ai_tab mDifference_countPairs) 40 = some (.iload_n 2, 41, 2, 0, 0, .null, []) := rfl
theorem iDifference_countPairs_41 : ai_find (ai_tab mDifference_countPairs) 41 = some (.iconst 1, 42, 0, 0, 0, .int (nI 1), []) := rfl
theorem iDifference_countPairs_42 : ai_find (ai_tab mDifference_countPairs) 42 = some (.iadd, 43, 0, 0, 0, .null, []) := rfl
theorem iDifference_countPairs_43 : ai_find (ai_tab mDifference_countPairs) 43 = some (.invokevirtual 88, 46, 57, 3, 1, .ref 2, []) := rfl
theorem iDifference_countPairs_46 : ai_find (ai_tab mDifference_countPairs) 46 = some (.invokestatic 91, 49, 0, 2, 4, .null, []) := rfl
theorem iDifference_countPairs_49 : ai_find (ai_tab mDifference_countPairs) 49 = some (.istore_n 3, 50, 3, 0, 0, .null, []) := rfl
theorem iDifference_countPairs_50 : ai_find (ai_tab mDifference_countPairs) 50 = some (.aload_n 0, 51, 0, 0, 0, .null, []) := rfl
theorem iDifference_countPairs_51 : ai_find (ai_tab mDifference_countPairs) 51 = some (.getfield 9, 54, 2, 0, 0, .null, []) := rfl
theorem iDifference_countPairs_54 : ai_find (ai_tab mDifference_countPairs) 54 = some (.iload_n 1, 55, 1, 0, 0, .null, []) := rfl
theorem iDifference_countPairs_55 : ai_find (ai_tab mDifference_countPairs) 55 = some (.iaload, 56, 0, 0, 0, .null, []) := rfl
theorem iDifference_countPairs_56 : ai_find (ai_tab mDifference_countPairs) 56 = some (.aload_n 0, 57, 0, 0, 0, .null, []) := rfl
theorem iDifference_countPairs_57 : ai_find (ai_tab mDifference_countPairs) 57 = some (.getfield 15, 60, 2, 1, 0, .null, []) := rfl
theorem iDifference_countPairs_60 : ai_find (ai_tab mDifference_countPairs) 60 = some (.iload_n 2, 61, 2, 0, 0, .null, []) := rfl
theorem iDifference_countPairs_61 : ai_find (ai_tab mDifference_countPairs) 61 = some (.iaload, 62, 0, 0, 0, .null, []) := rfl
theorem iDifference_countPairs_62 : ai_find (ai_tab mDifference_countPairs) 62 = some (.if_icmp .ne 18, 65, 80, 0, 0, .null, []) := rfl
theorem iDifference_countPairs_65 : ai_find (ai_tab mDifference_countPairs) 65 = some (.iconst 1, 66, 0, 0, 0, .int (nI 1), []) := rfl
theorem iDifference_countPairs_66 : ai_find (ai_tab mDifference_countPairs) 66 = some (.aload_n 0, 67, 0, 0, 0, .null, []) := rfl
theorem iDifference_countPairs_67 : ai_find (ai_tab mDifference_countPairs) 67 = some (.iload_n 1, 68, 1, 0, 0, .null, []) := rfl
theorem iDifference_countPairs_68 : ai_find (ai_tab mDifference_countPairs) 68 = some (.iconst 1, 69, 0, 0, 0, .int (nI 1), []) := rfl
theorem iDifference_countPairs_69 : ai_find (ai_tab mDifference_countPairs) 69 = some (.iadd, 70, 0, 0, 0, .null, []) := rfl
theorem iDifference_countPairs_70 : ai_find (ai_tab mDifference_countPairs) 70 = some (.iload_n 2, 71, 2, 0, 0, .null, []) := rfl
theorem iDifference_countPairs_71 : ai_find (ai_tab mDifference_countPairs) 71 = some (.iconst 1, 72, 0, 0, 0, .int (nI 1), []) := rfl
theorem iDifference_countPairs_72 : ai_find (ai_tab mDifference_countPairs) 72 = some (.iadd, 73, 0, 0, 0, .null, []) := rfl
theorem iDifference_countPairs_73 : ai_find (ai_tab mDifference_countPairs) 73 = some (.invokevirtual 88, 76, 57, 3, 1, .ref 2, []) := rfl
theorem iDifference_countPairs_76 : ai_find (ai_tab mDifference_countPairs) 76 = some (.iadd, 77, 0, 0, 0, .null, []) := rfl
theorem iDifference_countPairs_77 : ai_find (ai_tab mDifference_countPairs) 77 = some (.goto 4, 80, 81, 0, 0, .null, []) := rfl
theorem iDifference_countPairs_80 : ai_find (ai_tab mDifference_countPairs) 80 = some (.iconst 0, 81, 0, 0, 0, .int (nI 0), []) := rfl
theorem iDifference_countPairs_81 : ai_find (ai_tab mDifference_countPairs) 81 = some (.istore 4, 83, 4, 0, 0, .null, []) := rfl
theorem iDifference_countPairs_83 : ai_find (ai_tab mDifference_countPairs) 83 = some (.aload_n 0, 84, 0, 0, 0, .null, []) := rfl
theorem iDifference_countPairs_84 : ai_find (ai_tab mDifference_countPairs) 84 = some (.getfield 18, 87, 2, 4, 0, .null, []) := rfl
theorem iDifference_countPairs_87 : ai_find (ai_tab mDifference_countPairs) 87 = some (.iload_n 1, 88, 1, 0, 0, .null, []) := rfl
theorem iDifference_countPairs_88 : ai_find (ai_tab mDifference_countPairs) 88 = some (.bipush 7, 90, 0, 0, 0, .int (nI 7), []) := rfl
theorem iDifference_countPairs_90 : ai_find (ai_tab mDifference_countPairs) 90 = some (.imul, 91, 0, 0, 0, .null, []) := rfl
theorem iDifference_countPairs_91 : ai_find (ai_tab mDifference_countPairs) 91 = some (.iload_n 2, 92, 2, 0, 0, .null, []) := rfl
theorem iDifference_countPairs_92 : ai_find (ai_tab mDifference_countPairs) 92 = some (.iadd, 93, 0, 0, 0, .null, []) := rfl
set_option maxRecDepth 20000 in theorem iDifference_countPairs_93 : ai_find (ai_tab mDifference_countPairs) 93 = some (.iload_n 3, 94, 3, 0, 0, .null, []) := rfl
set_option maxRecDepth 20000 in theorem iDifference_countPairs_94 : ai_find (ai_tab mDifference_countPairs) 94 = some (.iload 4, 96, 4, 0, 0, .null, []) := rfl
set_option maxRecDepth 20000 in theorem iDifference_countPairs_96 : ai_find (ai_tab mDifference_countPairs) 96 = some (.invokestatic 91, 99, 0, 2, 4, .null, []) := rfl
set_option maxRecDepth 20000 in theorem iDifference_countPairs_99 : ai_find (ai_tab mDifference_countPairs) 99 = some (.iastore, 100, 0, 0, 0, .null, []) := rfl
set_option maxRecDepth 20000 in theorem iDifference_countPairs_100 : ai_find (ai_tab mDifference_countPairs) 100 = some (.iinc 2 (-1), 103, 2, 0, 0, .int (-1), []) := rfl
set_option maxRecDepth 20000 in theorem iDifference_countPairs_103 : ai_find (ai_tab mDifference_countPairs) 103 = some (.goto (-77), 106, 26, 0, 0, .null, []) := rfl
set_option maxRecDepth 20000 in theorem iDifference_countPairs_106 : ai_find (ai_tab mDifference_countPairs) 106 = some (.iinc 1 (-1), 109, 1, 0, 0, .int (-1), []) := rfl
set_option maxRecDepth 20000 in theorem iDifference_countPairs_109 : ai_find (ai_tab mDifference_countPairs) 109 = some (.goto (-94), 112, 15, 0, 0, .null, []) := rfl
set_option maxRecDepth 20000 in theorem iDifference_countPairs_112 : ai_find (ai_tab mDifference_countPairs) 112 = some (.return_, 113, 0, 0, 0, .null, []) := rfl
theorem iDifference_find_0 : ai_find (ai_tab mDifference_find) 0 = some (.aload_n 3, 1, 3, 0, 0, .null, []) := rfl
theorem iDifference_find_1 : ai_find (ai_tab mDifference_find) 1 = some (.invokevirtual 21, 4, 30, 1, 1, .ref 1, []) := rfl
theorem iDifference_find_4 : ai_find (ai_tab mDifference_find) 4 = some (.iconst 0, 5, 0, 0, 0, .int (nI 0), []) := rfl
theorem iDifference_find_5 : ai_find (ai_tab mDifference_find) 5 = some (.istore 4, 7, 4, 0, 0, .null, []) := rfl
theorem iDifference_find_7 : ai_find (ai_tab mDifference_find) 7 = some (.iload 4, 9, 4, 0, 0, .null, []) := rfl
theorem iDifference_find_9 : ai_find (ai_tab mDifference_find) 9 = some (.bipush 16, 11, 0, 0, 0, .int (nI 16), []) := rfl
theorem iDifference_find_11 : ai_find (ai_tab mDifference_find) 11 = some (.if_icmp .ge 39, 14, 50, 0, 0, .null, []) := rfl
theorem iDifference_find_14 : ai_find (ai_tab mDifference_find) 14 = some (.aload_n 2, 15, 2, 0, 0, .null, []) := rfl
theorem iDifference_find_15 : ai_find (ai_tab mDifference_find) 15 = some (.iload 4, 17, 4, 0, 0, .null, []) := rfl
theorem iDifference_find_17 : ai_find (ai_tab mDifference_find) 17 = some (.invokevirtual 26, 20, 80, 2, 1, .ref 4, []) := rfl
theorem iDifference_find_20 : ai_find (ai_tab mDifference_find) 20 = some (.ifCond .eq 24, 23, 44, 0, 0, .null, []) := rfl
theorem iDifference_find_23 : ai_find (ai_tab mDifference_find) 23 = some (.aload_n 1, 24, 1, 0, 0, .null, []) := rfl
theorem iDifference_find_24 : ai_find (ai_tab mDifference_find) 24 = some (.iload 4, 26, 4, 0, 0, .null, []) := rfl
theorem iDifference_find_26 : ai_find (ai_tab mDifference_find) 26 = some (.invokevirtual 26, 29, 80, 2, 1, .ref 4, []) := rfl
theorem iDifference_find_29 : ai_find (ai_tab mDifference_find) 29 = some (.ifCond .ne 15, 32, 44, 0, 0, .null, []) := rfl
theorem iDifference_find_32 : ai_find (ai_tab mDifference_find) 32 = some (.aload_n 3, 33, 3, 0, 0, .null, []) := rfl
theorem iDifference_find_33 : ai_find (ai_tab mDifference_find) 33 = some (.iload 4, 35, 4, 0, 0, .null, []) := rfl
theorem iDifference_find_35 : ai_find (ai_tab mDifference_find) 35 = some (.aload_n 2, 36, 2, 0, 0, .null, []) := rfl
theorem iDifference_find_36 : ai_find (ai_tab mDifference_find) 36 = some (.iload 4, 38, 4, 0, 0, .null, []) := rfl
theorem iDifference_find_38 : ai_find (ai_tab mDifference_find) 38 = some (.invokevirtual 32, 41, 79, 2, 1, .ref 4, []) := rfl
theorem iDifference_find_41 : ai_find (ai_tab mDifference_find) 41 = some (.invokevirtual 36, 44, 24, 3, 1, .ref 1, []) := rfl
theorem iDifference_find_44 : ai_find (ai_tab mDifference_find) 44 = some (.iinc 4 1, 47, 4, 0, 0, .int (nI 1), []) := rfl
theorem iDifference_find_47 : ai_find (ai_tab mDifference_find) 47 = some (.goto (-40), 50, 7, 0, 0, .null, []) := rfl
theorem iDifference_find_50 : ai_find (ai_tab mDifference_find) 50 = some (.iconst 0, 51, 0, 0, 0, .int (nI 0), []) := rfl
theorem iDifference_find_51 : ai_find (ai_tab mDifference_find) 51 = some (.istore 4, 53, 4, 0, 0, .null, []) := rfl
theorem iDifference_find_53 : ai_find (ai_tab mDifference_find) 53 = some (.iload 4, 55, 4, 0, 0, .null, []) := rfl
theorem iDifference_find_55 : ai_find (ai_tab mDifference_find) 55 = some (.bipush 16, 57, 0, 0, 0, .int (nI 16), []) := rfl
theorem iDifference_find_57 : ai_find (ai_tab mDifference_find) 57 = some (.if_icmp .ge 57, 60, 114, 0, 0, .null, []) := rfl
theorem iDifference_find_60 : ai_find (ai_tab mDifference_find) 60 = some (.aload_n 2, 61, 2, 0, 0, .null, []) := rfl
theorem iDifference_find_61 : ai_find (ai_tab mDifference_find) 61 = some (.iload 4, 63, 4, 0, 0, .null, []) := rfl
theorem iDifference_find_63 : ai_find (ai_tab mDifference_find) 63 = some (.invokevirtual 40, 66, 83, 2, 1, .ref 4, []) := rfl
theorem iDifference_find_66 : ai_find (ai_tab mDifference_find) 66 = some (.ifCond .eq 25, 69, 91, 0, 0, .null, []) := rfl
theorem iDifference_find_69 : ai_find (ai_tab mDifference_find) 69 = some (.aload_n 0, 70, 0, 0, 0, .null, []) := rfl
theorem iDifference_find_70 : ai_find (ai_tab mDifference_find) 70 = some (.aload_n 1, 71, 1, 0, 0, .null, []) := rfl
theorem iDifference_find_71 : ai_find (ai_tab mDifference_find) 71 = some (.aload_n 2, 72, 2, 0, 0, .null, []) := rfl
theorem iDifference_find_72 : ai_find (ai_tab mDifference_find) 72 = some (.iload 4, 74, 4, 0, 0, .null, []) := rfl
theorem iDifference_find_74 : ai_find (ai_tab mDifference_find) 74 = some (.invokevirtual 43, 77, 58, 4, 1, .ref 2, []) := rfl
theorem iDifference_find_77 : ai_find (ai_tab mDifference_find) 77 = some (.aload_n 0, 78, 0, 0, 0, .null, []) := rfl
theorem iDifference_find_78 : ai_find (ai_tab mDifference_find) 78 = some (.invokevirtual 47, 81, 54, 1, 1, .ref 2, []) := rfl
theorem iDifference_find_81 : ai_find (ai_tab mDifference_find) 81 = some (.aload_n 0, 82, 0, 0, 0, .null, []) := rfl
theorem iDifference_find_82 : ai_find (ai_tab mDifference_find) 82 = some (.iload 4, 84, 4, 0, 0, .null, []) := rfl
theorem iDifference_find_84 : ai_find (ai_tab mDifference_find) 84 = some (.aload_n 3, 85, 3, 0, 0, .null, []) := rfl
theorem iDifference_find_85 : ai_find (ai_tab mDifference_find) 85 = some (.invokevirtual 50, 88, 53, 3, 1, .ref 2, []) := rfl
theorem iDifference_find_88 : ai_find (ai_tab mDifference_find) 88 = some (.goto 20, 91, 108, 0, 0, .null, []) := rfl
theorem iDifference_find_91 : ai_find (ai_tab mDifference_find) 91 = some (.aload_n 2, 92, 2, 0, 0, .null, []) := rfl
theorem iDifference_find_92 : ai_find (ai_tab mDifference_find) 92 = some (.iload 4, 94, 4, 0, 0, .null, []) := rfl
theorem iDifference_find_94 : ai_find (ai_tab mDifference_find) 94 = some (.invokevirtual 26, 97, 80, 2, 1, .ref 4, []) := rfl
theorem iDifference_find_97 : ai_find (ai_tab mDifference_find) 97 = some (.ifCond .eq 11, 100, 108, 0, 0, .null, []) := rfl
theorem iDifference_find_100 : ai_find (ai_tab mDifference_find) 100 = some (.aload_n 1, 101, 1, 0, 0, .null, []) := rfl
theorem iDifference_find_101 : ai_find (ai_tab mDifference_find) 101 = some (.aload_n 2, 102, 2, 0, 0, .null, []) := rfl
theorem iDifference_find_102 : ai_find (ai_tab mDifference_find) 102 = some (.iload 4, 104, 4, 0, 0, .null, []) := rfl
theorem iDifference_find_104 : ai_find (ai_tab mDifference_find) 104 = some (.aload_n 3, 105, 3, 0, 0, .null, []) := rfl
theorem iDifference_find_105 : ai_find (ai_tab mDifference_find) 105 = some (.invokestatic 54, 108, 52, 4, 0, .null, []) := rfl
theorem iDifference_find_108 : ai_find (ai_tab mDifference_find) 108 = some (.iinc 4 1, 111, 4, 0, 0, .int (nI 1), []) := rfl
theorem iDifference_find_111 : ai_find (ai_tab mDifference_find) 111 = some (.goto (-58), 114, 53, 0, 0, .null, []) := rfl
theorem iDifference_find_114 : ai_find (ai_tab mDifference_find) 114 = some (.return_, 115, 0, 0, 0, .null, []) := rfl
theorem iDifference_mate_0 : ai_find (ai_tab mDifference_mate) 0 = some (.iload_n 2, 1, 2, 0, 0, .null, []) := rfl
theorem iDifference_mate_1 : ai_find (ai_tab mDifference_mate) 1 = some (.istore 4, 3, 4, 0, 0, .null, []) := rfl
theorem iDifference_mate_3 : ai_find (ai_tab mDifference_mate) 3 = some (.iload 4, 5, 4, 0, 0, .null, []) := rfl
theorem iDifference_mate_5 : ai_find (ai_tab mDifference_mate) 5 = some (.aload_n 0, 6, 0, 0, 0, .null, []) := rfl
theorem iDifference_mate_6 : ai_find (ai_tab mDifference_mate) 6 = some (.getfield 76, 9, 2, 3, 0, .null, []) := rfl
theorem iDifference_mate_9 : ai_find (ai_tab mDifference_mate) 9 = some (.if_icmp .ge 45, 12, 54, 0, 0, .null, []) := rfl
theorem iDifference_mate_12 : ai_find (ai_tab mDifference_mate) 12 = some (.aload_n 0, 13, 0, 0, 0, .null, []) := rfl
theorem iDifference_mate_13 : ai_find (ai_tab mDifference_mate) 13 = some (.getfield 9, 16, 2, 0, 0, .null, []) := rfl
theorem iDifference_mate_16 : ai_find (ai_tab mDifference_mate) 16 = some (.iload_n 1, 17, 1, 0, 0, .null, []) := rfl
theorem iDifference_mate_17 : ai_find (ai_tab mDifference_mate) 17 = some (.iaload, 18, 0, 0, 0, .null, []) := rfl
theorem iDifference_mate_18 : ai_find (ai_tab mDifference_mate) 18 = some (.aload_n 0, 19, 0, 0, 0, .null, []) := rfl
theorem iDifference_mate_19 : ai_find (ai_tab mDifference_mate) 19 = some (.getfield 15, 22, 2, 1, 0, .null, []) := rfl
theorem iDifference_mate_22 : ai_find (ai_tab mDifference_mate) 22 = some (.iload 4, 24, 4, 0, 0, .null, []) := rfl
theorem iDifference_mate_24 : ai_find (ai_tab mDifference_mate) 24 = some (.iaload, 25, 0, 0, 0, .null, []) := rfl
theorem iDifference_mate_25 : ai_find (ai_tab mDifference_mate) 25 = some (.if_icmp .ne 23, 28, 48, 0, 0, .null, []) := rfl
theorem iDifference_mate_28 : ai_find (ai_tab mDifference_mate) 28 = some (.iconst 1, 29, 0, 0, 0, .int (nI 1), []) := rfl
theorem iDifference_mate_29 : ai_find (ai_tab mDifference_mate) 29 = some (.aload_n 0, 30, 0, 0, 0, .null, []) := rfl
theorem iDifference_mate_30 : ai_find (ai_tab mDifference_mate) 30 = some (.iload_n 1, 31, 1, 0, 0, .null, []) := rfl
theorem iDifference_mate_31 : ai_find (ai_tab mDifference_mate) 31 = some (.iconst 1, 32, 0, 0, 0, .int (nI 1), []) := rfl
theorem iDifference_mate_32 : ai_find (ai_tab mDifference_mate) 32 = some (.iadd, 33, 0, 0, 0, .null, []) := rfl
theorem iDifference_mate_33 : ai_find (ai_tab mDifference_mate) 33 = some (.iload 4, 35, 4, 0, 0, .null, []) := rfl
theorem iDifference_mate_35 : ai_find (ai_tab mDifference_mate) 35 = some (.iconst 1, 36, 0, 0, 0, .int (nI 1), []) := rfl
theorem iDifference_mate_36 : ai_find (ai_tab mDifference_mate) 36 = some (.iadd, 37, 0, 0, 0, .null, []) := rfl
theorem iDifference_mate_37 : ai_find (ai_tab mDifference_mate) 37 = some (.invokevirtual 88, 40, 57, 3, 1, .ref 2, []) := rfl
theorem iDifference_mate_40 : ai_find (ai_tab mDifference_mate) 40 = some (.iadd, 41, 0, 0, 0, .null, []) := rfl
theorem iDifference_mate_41 : ai_find (ai_tab mDifference_mate) 41 = some (.iload_n 3, 42, 3, 0, 0, .null, []) := rfl
theorem iDifference_mate_42 : ai_find (ai_tab mDifference_mate) 42 = some (.if_icmp .ne 6, 45, 48, 0, 0, .null, []) := rfl
theorem iDifference_mate_45 : ai_find (ai_tab mDifference_mate) 45 = some (.iload 4, 47, 4, 0, 0, .null, []) := rfl
theorem iDifference_mate_47 : ai_find (ai_tab mDifference_mate) 47 = some (.ireturn, 48, 0, 0, 0, .null, []) := rfl
theorem iDifference_mate_48 : ai_find (ai_tab mDifference_mate) 48 = some (.iinc 4 1, 51, 4, 0, 0, .int (nI 1), []) := rfl
theorem iDifference_mate_51 : ai_find (ai_tab mDifference_mate) 51 = some (.goto (-48), 54, 3, 0, 0, .null, []) := rfl
theorem iDifference_mate_54 : ai_find (ai_tab mDifference_mate) 54 = some (.iconst (-1), 55, 0, 0, 0, .int (-1), []) := rfl
theorem iDifference_mate_55 : ai_find (ai_tab mDifference_mate) 55 = some (.ireturn, 56, 0, 0, 0, .null, []) := rfl
theorem iDifference_mostFrom_0 : ai_find (ai_tab mDifference_mostFrom) 0 = some (.aload_n 0, 1, 0, 0, 0, .null, []) := rfl
theorem iDifference_mostFrom_1 : ai_find (ai_tab mDifference_mostFrom) 1 = some (.getfield 18, 4, 2, 4, 0, .null, []) := rfl
theorem iDifference_mostFrom_4 : ai_find (ai_tab mDifference_mostFrom) 4 = some (.iload_n 1, 5, 1, 0, 0, .null, []) := rfl
theorem iDifference_mostFrom_5 : ai_find (ai_tab mDifference_mostFrom) 5 = some (.bipush 7, 7, 0, 0, 0, .int (nI 7), []) := rfl
theorem iDifference_mostFrom_7 : ai_find (ai_tab mDifference_mostFrom) 7 = some (.imul, 8, 0, 0, 0, .null, []) := rfl
theorem iDifference_mostFrom_8 : ai_find (ai_tab mDifference_mostFrom) 8 = some (.iload_n 2, 9, 2, 0, 0, .null, []) := rfl
theorem iDifference_mostFrom_9 : ai_find (ai_tab mDifference_mostFrom) 9 = some (.iadd, 10, 0, 0, 0, .null, []) := rfl
theorem iDifference_mostFrom_10 : ai_find (ai_tab mDifference_mostFrom) 10 = some (.iaload, 11, 0, 0, 0, .null, []) := rfl
theorem iDifference_mostFrom_11 : ai_find (ai_tab mDifference_mostFrom) 11 = some (.ireturn, 12, 0, 0, 0, .null, []) := rfl
theorem iDifference_takeRows_0 : ai_find (ai_tab mDifference_takeRows) 0 = some (.aload_n 0, 1, 0, 0, 0, .null, []) := rfl
theorem iDifference_takeRows_1 : ai_find (ai_tab mDifference_takeRows) 1 = some (.aload_n 1, 2, 1, 0, 0, .null, []) := rfl
theorem iDifference_takeRows_2 : ai_find (ai_tab mDifference_takeRows) 2 = some (.iload_n 3, 3, 3, 0, 0, .null, []) := rfl
theorem iDifference_takeRows_3 : ai_find (ai_tab mDifference_takeRows) 3 = some (.invokevirtual 69, 6, 85, 2, 1, .ref 4, []) := rfl
theorem iDifference_takeRows_6 : ai_find (ai_tab mDifference_takeRows) 6 = some (.putfield 72, 9, 2, 2, 0, .null, []) := rfl
theorem iDifference_takeRows_9 : ai_find (ai_tab mDifference_takeRows) 9 = some (.aload_n 0, 10, 0, 0, 0, .null, []) := rfl
theorem iDifference_takeRows_10 : ai_find (ai_tab mDifference_takeRows) 10 = some (.aload_n 2, 11, 2, 0, 0, .null, []) := rfl
theorem iDifference_takeRows_11 : ai_find (ai_tab mDifference_takeRows) 11 = some (.iload_n 3, 12, 3, 0, 0, .null, []) := rfl
theorem iDifference_takeRows_12 : ai_find (ai_tab mDifference_takeRows) 12 = some (.invokevirtual 69, 15, 85, 2, 1, .ref 4, []) := rfl
theorem iDifference_takeRows_15 : ai_find (ai_tab mDifference_takeRows) 15 = some (.putfield 76, 18, 2, 3, 0, .null, []) := rfl
theorem iDifference_takeRows_18 : ai_find (ai_tab mDifference_takeRows) 18 = some (.iconst 0, 19, 0, 0, 0, .int (nI 0), []) := rfl
theorem iDifference_takeRows_19 : ai_find (ai_tab mDifference_takeRows) 19 = some (.istore 4, 21, 4, 0, 0, .null, []) := rfl
theorem iDifference_takeRows_21 : ai_find (ai_tab mDifference_takeRows) 21 = some (.iload 4, 23, 4, 0, 0, .null, []) := rfl
theorem iDifference_takeRows_23 : ai_find (ai_tab mDifference_takeRows) 23 = some (.bipush 6, 25, 0, 0, 0, .int (nI 6), []) := rfl
theorem iDifference_takeRows_25 : ai_find (ai_tab mDifference_takeRows) 25 = some (.if_icmp .ge 37, 28, 62, 0, 0, .null, []) := rfl
theorem iDifference_takeRows_28 : ai_find (ai_tab mDifference_takeRows) 28 = some (.aload_n 0, 29, 0, 0, 0, .null, []) := rfl
theorem iDifference_takeRows_29 : ai_find (ai_tab mDifference_takeRows) 29 = some (.getfield 9, 32, 2, 0, 0, .null, []) := rfl
theorem iDifference_takeRows_32 : ai_find (ai_tab mDifference_takeRows) 32 = some (.iload 4, 34, 4, 0, 0, .null, []) := rfl
theorem iDifference_takeRows_34 : ai_find (ai_tab mDifference_takeRows) 34 = some (.aload_n 1, 35, 1, 0, 0, .null, []) := rfl
theorem iDifference_takeRows_35 : ai_find (ai_tab mDifference_takeRows) 35 = some (.iload_n 3, 36, 3, 0, 0, .null, []) := rfl
theorem iDifference_takeRows_36 : ai_find (ai_tab mDifference_takeRows) 36 = some (.iload 4, 38, 4, 0, 0, .null, []) := rfl
theorem iDifference_takeRows_38 : ai_find (ai_tab mDifference_takeRows) 38 = some (.invokevirtual 79, 41, 84, 3, 1, .ref 4, []) := rfl
theorem iDifference_takeRows_41 : ai_find (ai_tab mDifference_takeRows) 41 = some (.iastore, 42, 0, 0, 0, .null, []) := rfl
theorem iDifference_takeRows_42 : ai_find (ai_tab mDifference_takeRows) 42 = some (.aload_n 0, 43, 0, 0, 0, .null, []) := rfl
theorem iDifference_takeRows_43 : ai_find (ai_tab mDifference_takeRows) 43 = some (.getfield 15, 46, 2, 1, 0, .null, []) := rfl
theorem iDifference_takeRows_46 : ai_find (ai_tab mDifference_takeRows) 46 = some (.iload 4, 48, 4, 0, 0, .null, []) := rfl
theorem iDifference_takeRows_48 : ai_find (ai_tab mDifference_takeRows) 48 = some (.aload_n 2, 49, 2, 0, 0, .null, []) := rfl
theorem iDifference_takeRows_49 : ai_find (ai_tab mDifference_takeRows) 49 = some (.iload_n 3, 50, 3, 0, 0, .null, []) := rfl
theorem iDifference_takeRows_50 : ai_find (ai_tab mDifference_takeRows) 50 = some (.iload 4, 52, 4, 0, 0, .null, []) := rfl
theorem iDifference_takeRows_52 : ai_find (ai_tab mDifference_takeRows) 52 = some (.invokevirtual 79, 55, 84, 3, 1, .ref 4, []) := rfl
theorem iDifference_takeRows_55 : ai_find (ai_tab mDifference_takeRows) 55 = some (.iastore, 56, 0, 0, 0, .null, []) := rfl
theorem iDifference_takeRows_56 : ai_find (ai_tab mDifference_takeRows) 56 = some (.iinc 4 1, 59, 4, 0, 0, .int (nI 1), []) := rfl
theorem iDifference_takeRows_59 : ai_find (ai_tab mDifference_takeRows) 59 = some (.goto (-38), 62, 21, 0, 0, .null, []) := rfl
theorem iDifference_takeRows_62 : ai_find (ai_tab mDifference_takeRows) 62 = some (.return_, 63, 0, 0, 0, .null, []) := rfl
theorem iDraft_init_0 : ai_find (ai_tab mDraft_init) 0 = some (.aload_n 0, 1, 0, 0, 0, .null, []) := rfl
theorem iDraft_init_1 : ai_find (ai_tab mDraft_init) 1 = some (.invokespecial 3, 4, 0, 1, 3, .null, []) := rfl
theorem iDraft_init_4 : ai_find (ai_tab mDraft_init) 4 = some (.aload_n 0, 5, 0, 0, 0, .null, []) := rfl
theorem iDraft_init_5 : ai_find (ai_tab mDraft_init) 5 = some (.sipush 1200, 8, 0, 0, 0, .int (nI 1200), []) := rfl
theorem iDraft_init_8 : ai_find (ai_tab mDraft_init) 8 = some (.newarray .int, 10, 0, 0, 0, .null, []) := rfl
theorem iDraft_init_10 : ai_find (ai_tab mDraft_init) 10 = some (.putfield 11, 13, 3, 0, 3, .null, []) := rfl
theorem iDraft_init_13 : ai_find (ai_tab mDraft_init) 13 = some (.return_, 14, 0, 0, 0, .null, []) := rfl
theorem iDraft_add_0 : ai_find (ai_tab mDraft_add) 0 = some (.aload_n 0, 1, 0, 0, 0, .null, []) := rfl
theorem iDraft_add_1 : ai_find (ai_tab mDraft_add) 1 = some (.invokevirtual 19, 4, 62, 1, 1, .ref 3, []) := rfl
theorem iDraft_add_4 : ai_find (ai_tab mDraft_add) 4 = some (.ifCond .ne 23, 7, 27, 0, 0, .null, []) := rfl
theorem iDraft_add_7 : ai_find (ai_tab mDraft_add) 7 = some (.aload_n 0, 8, 0, 0, 0, .null, []) := rfl
theorem iDraft_add_8 : ai_find (ai_tab mDraft_add) 8 = some (.getfield 11, 11, 3, 0, 0, .null, []) := rfl
theorem iDraft_add_11 : ai_find (ai_tab mDraft_add) 11 = some (.aload_n 0, 12, 0, 0, 0, .null, []) := rfl
theorem iDraft_add_12 : ai_find (ai_tab mDraft_add) 12 = some (.getfield 15, 15, 3, 1, 0, .null, []) := rfl
theorem iDraft_add_15 : ai_find (ai_tab mDraft_add) 15 = some (.iload_n 1, 16, 1, 0, 0, .null, []) := rfl
theorem iDraft_add_16 : ai_find (ai_tab mDraft_add) 16 = some (.iastore, 17, 0, 0, 0, .null, []) := rfl
theorem iDraft_add_17 : ai_find (ai_tab mDraft_add) 17 = some (.aload_n 0, 18, 0, 0, 0, .null, []) := rfl
theorem iDraft_add_18 : ai_find (ai_tab mDraft_add) 18 = some (.dup, 19, 0, 0, 0, .null, []) := rfl
theorem iDraft_add_19 : ai_find (ai_tab mDraft_add) 19 = some (.getfield 15, 22, 3, 1, 0, .null, []) := rfl
theorem iDraft_add_22 : ai_find (ai_tab mDraft_add) 22 = some (.iconst 1, 23, 0, 0, 0, .int (nI 1), []) := rfl
theorem iDraft_add_23 : ai_find (ai_tab mDraft_add) 23 = some (.iadd, 24, 0, 0, 0, .null, []) := rfl
theorem iDraft_add_24 : ai_find (ai_tab mDraft_add) 24 = some (.putfield 15, 27, 3, 1, 0, .null, []) := rfl
theorem iDraft_add_27 : ai_find (ai_tab mDraft_add) 27 = some (.return_, 28, 0, 0, 0, .null, []) := rfl
theorem iDraft_at_0 : ai_find (ai_tab mDraft_at) 0 = some (.iload_n 1, 1, 1, 0, 0, .null, []) := rfl
theorem iDraft_at_1 : ai_find (ai_tab mDraft_at) 1 = some (.ifCond .lt 20, 4, 21, 0, 0, .null, []) := rfl
theorem iDraft_at_4 : ai_find (ai_tab mDraft_at) 4 = some (.iload_n 1, 5, 1, 0, 0, .null, []) := rfl
theorem iDraft_at_5 : ai_find (ai_tab mDraft_at) 5 = some (.aload_n 0, 6, 0, 0, 0, .null, []) := rfl
theorem iDraft_at_6 : ai_find (ai_tab mDraft_at) 6 = some (.getfield 15, 9, 3, 1, 0, .null, []) := rfl
theorem iDraft_at_9 : ai_find (ai_tab mDraft_at) 9 = some (.if_icmp .ge 12, 12, 21, 0, 0, .null, []) := rfl
theorem iDraft_at_12 : ai_find (ai_tab mDraft_at) 12 = some (.aload_n 0, 13, 0, 0, 0, .null, []) := rfl
theorem iDraft_at_13 : ai_find (ai_tab mDraft_at) 13 = some (.getfield 11, 16, 3, 0, 0, .null, []) := rfl
theorem iDraft_at_16 : ai_find (ai_tab mDraft_at) 16 = some (.iload_n 1, 17, 1, 0, 0, .null, []) := rfl
theorem iDraft_at_17 : ai_find (ai_tab mDraft_at) 17 = some (.iaload, 18, 0, 0, 0, .null, []) := rfl
theorem iDraft_at_18 : ai_find (ai_tab mDraft_at) 18 = some (.goto 4, 21, 22, 0, 0, .null, []) := rfl
theorem iDraft_at_21 : ai_find (ai_tab mDraft_at) 21 = some (.iconst (-1), 22, 0, 0, 0, .int (-1), []) := rfl
theorem iDraft_at_22 : ai_find (ai_tab mDraft_at) 22 = some (.ireturn, 23, 0, 0, 0, .null, []) := rfl
theorem iDraft_isFull_0 : ai_find (ai_tab mDraft_isFull) 0 = some (.aload_n 0, 1, 0, 0, 0, .null, []) := rfl
theorem iDraft_isFull_1 : ai_find (ai_tab mDraft_isFull) 1 = some (.getfield 15, 4, 3, 1, 0, .null, []) := rfl
theorem iDraft_isFull_4 : ai_find (ai_tab mDraft_isFull) 4 = some (.sipush 1200, 7, 0, 0, 0, .int (nI 1200), []) := rfl
theorem iDraft_isFull_7 : ai_find (ai_tab mDraft_isFull) 7 = some (.if_icmp .lt 7, 10, 14, 0, 0, .null, []) := rfl
theorem iDraft_isFull_10 : ai_find (ai_tab mDraft_isFull) 10 = some (.iconst 1, 11, 0, 0, 0, .int (nI 1), []) := rfl
theorem iDraft_isFull_11 : ai_find (ai_tab mDraft_isFull) 11 = some (.goto 4, 14, 15, 0, 0, .null, []) := rfl
theorem iDraft_isFull_14 : ai_find (ai_tab mDraft_isFull) 14 = some (.iconst 0, 15, 0, 0, 0, .int (nI 0), []) := rfl
theorem iDraft_isFull_15 : ai_find (ai_tab mDraft_isFull) 15 = some (.ireturn, 16, 1, 0, 0, .null, []) := rfl
theorem iDraft_shorten_0 : ai_find (ai_tab mDraft_shorten) 0 = some (.aload_n 0, 1, 0, 0, 0, .null, []) := rfl
theorem iDraft_shorten_1 : ai_find (ai_tab mDraft_shorten) 1 = some (.iload_n 1, 2, 1, 0, 0, .null, []) := rfl
theorem iDraft_shorten_2 : ai_find (ai_tab mDraft_shorten) 2 = some (.putfield 15, 5, 3, 1, 0, .null, []) := rfl
theorem iDraft_shorten_5 : ai_find (ai_tab mDraft_shorten) 5 = some (.return_, 6, 0, 0, 0, .null, []) := rfl
theorem iDraft_size_0 : ai_find (ai_tab mDraft_size) 0 = some (.aload_n 0, 1, 0, 0, 0, .null, []) := rfl
theorem iDraft_size_1 : ai_find (ai_tab mDraft_size) 1 = some (.getfield 15, 4, 3, 1, 0, .null, []) := rfl
theorem iDraft_size_4 : ai_find (ai_tab mDraft_size) 4 = some (.ireturn, 5, 0, 0, 0, .null, []) := rfl
theorem iDraft_sum_0 : ai_find (ai_tab mDraft_sum) 0 = some (.iconst 0, 1, 0, 0, 0, .int (nI 0), []) := rfl
theorem iDraft_sum_1 : ai_find (ai_tab mDraft_sum) 1 = some (.istore_n 2, 2, 2, 0, 0, .null, []) := rfl
theorem iDraft_sum_2 : ai_find (ai_tab mDraft_sum) 2 = some (.iconst 0, 3, 0, 0, 0, .int (nI 0), []) := rfl
theorem iDraft_sum_3 : ai_find (ai_tab mDraft_sum) 3 = some (.istore_n 3, 4, 3, 0, 0, .null, []) := rfl
theorem iDraft_sum_4 : ai_find (ai_tab mDraft_sum) 4 = some (.iload_n 3, 5, 3, 0, 0, .null, []) := rfl
theorem iDraft_sum_5 : ai_find (ai_tab mDraft_sum) 5 = some (.iload_n 1, 6, 1, 0, 0, .null, []) := rfl
theorem iDraft_sum_6 : ai_find (ai_tab mDraft_sum) 6 = some (.if_icmp .ge 30, 9, 36, 0, 0, .null, []) := rfl
theorem iDraft_sum_9 : ai_find (ai_tab mDraft_sum) 9 = some (.iload_n 3, 10, 3, 0, 0, .null, []) := rfl
theorem iDraft_sum_10 : ai_find (ai_tab mDraft_sum) 10 = some (.aload_n 0, 11, 0, 0, 0, .null, []) := rfl
theorem iDraft_sum_11 : ai_find (ai_tab mDraft_sum) 11 = some (.getfield 15, 14, 3, 1, 0, .null, []) := rfl
theorem iDraft_sum_14 : ai_find (ai_tab mDraft_sum) 14 = some (.if_icmp .ge 22, 17, 36, 0, 0, .null, []) := rfl
theorem iDraft_sum_17 : ai_find (ai_tab mDraft_sum) 17 = some (.iload_n 2, 18, 2, 0, 0, .null, []) := rfl
theorem iDraft_sum_18 : ai_find (ai_tab mDraft_sum) 18 = some (.aload_n 0, 19, 0, 0, 0, .null, []) := rfl
theorem iDraft_sum_19 : ai_find (ai_tab mDraft_sum) 19 = some (.getfield 11, 22, 3, 0, 0, .null, []) := rfl
theorem iDraft_sum_22 : ai_find (ai_tab mDraft_sum) 22 = some (.iload_n 3, 23, 3, 0, 0, .null, []) := rfl
theorem iDraft_sum_23 : ai_find (ai_tab mDraft_sum) 23 = some (.iaload, 24, 0, 0, 0, .null, []) := rfl
theorem iDraft_sum_24 : ai_find (ai_tab mDraft_sum) 24 = some (.iadd, 25, 0, 0, 0, .null, []) := rfl
theorem iDraft_sum_25 : ai_find (ai_tab mDraft_sum) 25 = some (.sipush 255, 28, 0, 0, 0, .int (nI 255), []) := rfl
theorem iDraft_sum_28 : ai_find (ai_tab mDraft_sum) 28 = some (.iand, 29, 0, 0, 0, .null, []) := rfl
theorem iDraft_sum_29 : ai_find (ai_tab mDraft_sum) 29 = some (.istore_n 2, 30, 2, 0, 0, .null, []) := rfl
theorem iDraft_sum_30 : ai_find (ai_tab mDraft_sum) 30 = some (.iinc 3 1, 33, 3, 0, 0, .int (nI 1), []) := rfl
theorem iDraft_sum_33 : ai_find (ai_tab mDraft_sum) 33 = some (.goto (-29), 36, 4, 0, 0, .null, []) := rfl
theorem iDraft_sum_36 : ai_find (ai_tab mDraft_sum) 36 = some (.iload_n 2, 37, 2, 0, 0, .null, []) := rfl
theorem iDraft_sum_37 : ai_find (ai_tab mDraft_sum) 37 = some (.ireturn, 38, 0, 0, 0, .null, []) := rfl
theorem iDraft_write_0 : ai_find (ai_tab mDraft_write) 0 = some (.aload_n 0, 1, 0, 0, 0, .null, []) := rfl
theorem iDraft_write_1 : ai_find (ai_tab mDraft_write) 1 = some (.iconst 0, 2, 0, 0, 0, .int (nI 0), []) := rfl
theorem iDraft_write_2 : ai_find (ai_tab mDraft_write) 2 = some (.putfield 15, 5, 3, 1, 0, .null, []) := rfl
theorem iDraft_write_5 : ai_find (ai_tab mDraft_write) 5 = some (.aload_n 0, 6, 0, 0, 0, .null, []) := rfl
theorem iDraft_write_6 : ai_find (ai_tab mDraft_write) 6 = some (.bipush 68, 8, 0, 0, 0, .int (nI 68), []) := rfl
theorem iDraft_write_8 : ai_find (ai_tab mDraft_write) 8 = some (.invokevirtual 23, 11, 60, 2, 1, .ref 3, []) := rfl
theorem iDraft_write_11 : ai_find (ai_tab mDraft_write) 11 = some (.iconst 0, 12, 0, 0, 0, .int (nI 0), []) := rfl
theorem iDraft_write_12 : ai_find (ai_tab mDraft_write) 12 = some (.istore_n 2, 13, 2, 0, 0, .null, []) := rfl
theorem iDraft_write_13 : ai_find (ai_tab mDraft_write) 13 = some (.iload_n 2, 14, 2, 0, 0, .null, []) := rfl
theorem iDraft_write_14 : ai_find (ai_tab mDraft_write) 14 = some (.aload_n 1, 15, 1, 0, 0, .null, []) := rfl
theorem iDraft_write_15 : ai_find (ai_tab mDraft_write) 15 = some (.invokevirtual 27, 18, 46, 1, 1, .ref 1, []) := rfl
theorem iDraft_write_18 : ai_find (ai_tab mDraft_write) 18 = some (.if_icmp .ge 69, 21, 87, 0, 0, .null, []) := rfl
theorem iDraft_write_21 : ai_find (ai_tab mDraft_write) 21 = some (.aload_n 0, 22, 0, 0, 0, .null, []) := rfl
theorem iDraft_write_22 : ai_find (ai_tab mDraft_write) 22 = some (.aload_n 1, 23, 1, 0, 0, .null, []) := rfl
theorem iDraft_write_23 : ai_find (ai_tab mDraft_write) 23 = some (.iload_n 2, 24, 2, 0, 0, .null, []) := rfl
theorem iDraft_write_24 : ai_find (ai_tab mDraft_write) 24 = some (.invokevirtual 33, 27, 31, 2, 1, .ref 1, []) := rfl
theorem iDraft_write_27 : ai_find (ai_tab mDraft_write) 27 = some (.invokevirtual 23, 30, 60, 2, 1, .ref 3, []) := rfl
theorem iDraft_write_30 : ai_find (ai_tab mDraft_write) 30 = some (.aload_n 0, 31, 0, 0, 0, .null, []) := rfl
theorem iDraft_write_31 : ai_find (ai_tab mDraft_write) 31 = some (.aload_n 1, 32, 1, 0, 0, .null, []) := rfl
theorem iDraft_write_32 : ai_find (ai_tab mDraft_write) 32 = some (.iload_n 2, 33, 2, 0, 0, .null, []) := rfl
theorem iDraft_write_33 : ai_find (ai_tab mDraft_write) 33 = some (.invokevirtual 37, 36, 43, 2, 1, .ref 1, []) := rfl
theorem iDraft_write_36 : ai_find (ai_tab mDraft_write) 36 = some (.invokevirtual 23, 39, 60, 2, 1, .ref 3, []) := rfl
theorem iDraft_write_39 : ai_find (ai_tab mDraft_write) 39 = some (.aload_n 0, 40, 0, 0, 0, .null, []) := rfl
theorem iDraft_write_40 : ai_find (ai_tab mDraft_write) 40 = some (.aload_n 1, 41, 1, 0, 0, .null, []) := rfl
theorem iDraft_write_41 : ai_find (ai_tab mDraft_write) 41 = some (.iload_n 2, 42, 2, 0, 0, .null, []) := rfl
theorem iDraft_write_42 : ai_find (ai_tab mDraft_write) 42 = some (.invokevirtual 40, 45, 44, 2, 1, .ref 1, []) := rfl
theorem iDraft_write_45 : ai_find (ai_tab mDraft_write) 45 = some (.invokevirtual 23, 48, 60, 2, 1, .ref 3, []) := rfl
theorem iDraft_write_48 : ai_find (ai_tab mDraft_write) 48 = some (.aload_n 1, 49, 1, 0, 0, .null, []) := rfl
theorem iDraft_write_49 : ai_find (ai_tab mDraft_write) 49 = some (.iload_n 2, 50, 2, 0, 0, .null, []) := rfl
theorem iDraft_write_50 : ai_find (ai_tab mDraft_write) 50 = some (.invokevirtual 33, 53, 31, 2, 1, .ref 1, []) := rfl
theorem iDraft_write_53 : ai_find (ai_tab mDraft_write) 53 = some (.iconst 2, 54, 0, 0, 0, .int (nI 2), []) := rfl
theorem iDraft_write_54 : ai_find (ai_tab mDraft_write) 54 = some (.if_icmp .ne 12, 57, 66, 0, 0, .null, []) := rfl
theorem iDraft_write_57 : ai_find (ai_tab mDraft_write) 57 = some (.aload_n 0, 58, 0, 0, 0, .null, []) := rfl
theorem iDraft_write_58 : ai_find (ai_tab mDraft_write) 58 = some (.aload_n 1, 59, 1, 0, 0, .null, []) := rfl
theorem iDraft_write_59 : ai_find (ai_tab mDraft_write) 59 = some (.iload_n 2, 60, 2, 0, 0, .null, []) := rfl
theorem iDraft_write_60 : ai_find (ai_tab mDraft_write) 60 = some (.invokevirtual 43, 63, 67, 3, 1, .ref 3, []) := rfl
theorem iDraft_write_63 : ai_find (ai_tab mDraft_write) 63 = some (.goto 18, 66, 81, 0, 0, .null, []) := rfl
theorem iDraft_write_66 : ai_find (ai_tab mDraft_write) 66 = some (.aload_n 1, 67, 1, 0, 0, .null, []) := rfl
theorem iDraft_write_67 : ai_find (ai_tab mDraft_write) 67 = some (.iload_n 2, 68, 2, 0, 0, .null, []) := rfl
theorem iDraft_write_68 : ai_find (ai_tab mDraft_write) 68 = some (.invokevirtual 33, 71, 31, 2, 1, .ref 1, []) := rfl
theorem iDraft_write_71 : ai_find (ai_tab mDraft_write) 71 = some (.iconst 3, 72, 0, 0, 0, .int (nI 3), []) := rfl
theorem iDraft_write_72 : ai_find (ai_tab mDraft_write) 72 = some (.if_icmp .ne 9, 75, 81, 0, 0, .null, []) := rfl
theorem iDraft_write_75 : ai_find (ai_tab mDraft_write) 75 = some (.aload_n 0, 76, 0, 0, 0, .null, []) := rfl
theorem iDraft_write_76 : ai_find (ai_tab mDraft_write) 76 = some (.aload_n 1, 77, 1, 0, 0, .null, []) := rfl
theorem iDraft_write_77 : ai_find (ai_tab mDraft_write) 77 = some (.iload_n 2, 78, 2, 0, 0, .null, []) := rfl
theorem iDraft_write_78 : ai_find (ai_tab mDraft_write) 78 = some (.invokevirtual 47, 81, 68, 3, 1, .ref 3, []) := rfl
theorem iDraft_write_81 : ai_find (ai_tab mDraft_write) 81 = some (.iinc 2 1, 84, 2, 0, 0, .int (nI 1), []) := rfl
theorem iDraft_write_84 : ai_find (ai_tab mDraft_write) 84 = some (.goto (-71), 87, 13, 0, 0, .null, []) := rfl
theorem iDraft_write_87 : ai_find (ai_tab mDraft_write) 87 = some (.aload_n 0, 88, 0, 0, 0, .null, []) := rfl
theorem iDraft_write_88 : ai_find (ai_tab mDraft_write) 88 = some (.iconst 0, 89, 0, 0, 0, .int (nI 0), []) := rfl
theorem iDraft_write_89 : ai_find (ai_tab mDraft_write) 89 = some (.invokevirtual 23, 92, 60, 2, 1, .ref 3, []) := rfl
theorem iDraft_write_92 : ai_find (ai_tab mDraft_write) 92 = some (.aload_n 0, 93, 0, 0, 0, .null, []) := rfl
theorem iDraft_write_93 : ai_find (ai_tab mDraft_write) 93 = some (.aload_n 0, 94, 0, 0, 0, .null, []) := rfl
theorem iDraft_write_94 : ai_find (ai_tab mDraft_write) 94 = some (.aload_n 0, 95, 0, 0, 0, .null, []) := rfl
theorem iDraft_write_95 : ai_find (ai_tab mDraft_write) 95 = some (.getfield 15, 98, 3, 1, 0, .null, []) := rfl
theorem iDraft_write_98 : ai_find (ai_tab mDraft_write) 98 = some (.invokevirtual 50, 101, 65, 2, 1, .ref 3, []) := rfl
theorem iDraft_write_101 : ai_find (ai_tab mDraft_write) 101 = some (.invokevirtual 23, 104, 60, 2, 1, .ref 3, []) := rfl
theorem iDraft_write_104 : ai_find (ai_tab mDraft_write) 104 = some (.return_, 105, 0, 0, 0, .null, []) := rfl
theorem iDraft_writeContent_0 : ai_find (ai_tab mDraft_writeContent) 0 = some (.aload_n 0, 1, 0, 0, 0, .null, []) := rfl
theorem iDraft_writeContent_1 : ai_find (ai_tab mDraft_writeContent) 1 = some (.aload_n 1, 2, 1, 0, 0, .null, []) := rfl
theorem iDraft_writeContent_2 : ai_find (ai_tab mDraft_writeContent) 2 = some (.iload_n 2, 3, 2, 0, 0, .null, []) := rfl
theorem iDraft_writeContent_3 : ai_find (ai_tab mDraft_writeContent) 3 = some (.invokevirtual 53, 6, 48, 2, 1, .ref 1, []) := rfl
theorem iDraft_writeContent_6 : ai_find (ai_tab mDraft_writeContent) 6 = some (.invokevirtual 23, 9, 60, 2, 1, .ref 3, []) := rfl
theorem iDraft_writeContent_9 : ai_find (ai_tab mDraft_writeContent) 9 = some (.aload_n 1, 10, 1, 0, 0, .null, []) := rfl
theorem iDraft_writeContent_10 : ai_find (ai_tab mDraft_writeContent) 10 = some (.iload_n 2, 11, 2, 0, 0, .null, []) := rfl
theorem iDraft_writeContent_11 : ai_find (ai_tab mDraft_writeContent) 11 = some (.invokevirtual 53, 14, 48, 2, 1, .ref 1, []) := rfl
theorem iDraft_writeContent_14 : ai_find (ai_tab mDraft_writeContent) 14 = some (.iconst 1, 15, 0, 0, 0, .int (nI 1), []) := rfl
theorem iDraft_writeContent_15 : ai_find (ai_tab mDraft_writeContent) 15 = some (.if_icmp .ne 15, 18, 30, 0, 0, .null, []) := rfl
theorem iDraft_writeContent_18 : ai_find (ai_tab mDraft_writeContent) 18 = some (.aload_n 0, 19, 0, 0, 0, .null, []) := rfl
theorem iDraft_writeContent_19 : ai_find (ai_tab mDraft_writeContent) 19 = some (.aload_n 1, 20, 1, 0, 0, .null, []) := rfl
theorem iDraft_writeContent_20 : ai_find (ai_tab mDraft_writeContent) 20 = some (.iload_n 2, 21, 2, 0, 0, .null, []) := rfl
theorem iDraft_writeContent_21 : ai_find (ai_tab mDraft_writeContent) 21 = some (.invokevirtual 56, 24, 32, 2, 1, .ref 1, []) := rfl
theorem iDraft_writeContent_24 : ai_find (ai_tab mDraft_writeContent) 24 = some (.invokevirtual 59, 27, 69, 2, 1, .ref 3, []) := rfl
theorem iDraft_writeContent_27 : ai_find (ai_tab mDraft_writeContent) 27 = some (.goto 21, 30, 48, 0, 0, .null, []) := rfl
theorem iDraft_writeContent_30 : ai_find (ai_tab mDraft_writeContent) 30 = some (.aload_n 1, 31, 1, 0, 0, .null, []) := rfl
theorem iDraft_writeContent_31 : ai_find (ai_tab mDraft_writeContent) 31 = some (.iload_n 2, 32, 2, 0, 0, .null, []) := rfl
theorem iDraft_writeContent_32 : ai_find (ai_tab mDraft_writeContent) 32 = some (.invokevirtual 53, 35, 48, 2, 1, .ref 1, []) := rfl
theorem iDraft_writeContent_35 : ai_find (ai_tab mDraft_writeContent) 35 = some (.iconst 2, 36, 0, 0, 0, .int (nI 2), []) := rfl
theorem iDraft_writeContent_36 : ai_find (ai_tab mDraft_writeContent) 36 = some (.if_icmp .ne 12, 39, 48, 0, 0, .null, []) := rfl
theorem iDraft_writeContent_39 : ai_find (ai_tab mDraft_writeContent) 39 = some (.aload_n 0, 40, 0, 0, 0, .null, []) := rfl
theorem iDraft_writeContent_40 : ai_find (ai_tab mDraft_writeContent) 40 = some (.aload_n 1, 41, 1, 0, 0, .null, []) := rfl
theorem iDraft_writeContent_41 : ai_find (ai_tab mDraft_writeContent) 41 = some (.iload_n 2, 42, 2, 0, 0, .null, []) := rfl
theorem iDraft_writeContent_42 : ai_find (ai_tab mDraft_writeContent) 42 = some (.invokevirtual 56, 45, 32, 2, 1, .ref 1, []) := rfl
theorem iDraft_writeContent_45 : ai_find (ai_tab mDraft_writeContent) 45 = some (.invokevirtual 23, 48, 60, 2, 1, .ref 3, []) := rfl
theorem iDraft_writeContent_48 : ai_find (ai_tab mDraft_writeContent) 48 = some (.return_, 49, 0, 0, 0, .null, []) := rfl
theorem iDraft_writeSplice_0 : ai_find (ai_tab mDraft_writeSplice) 0 = some (.aload_n 0, 1, 0, 0, 0, .null, []) := rfl
theorem iDraft_writeSplice_1 : ai_find (ai_tab mDraft_writeSplice) 1 = some (.aload_n 1, 2, 1, 0, 0, .null, []) := rfl
theorem iDraft_writeSplice_2 : ai_find (ai_tab mDraft_writeSplice) 2 = some (.iload_n 2, 3, 2, 0, 0, .null, []) := rfl
theorem iDraft_writeSplice_3 : ai_find (ai_tab mDraft_writeSplice) 3 = some (.invokevirtual 62, 6, 34, 2, 1, .ref 1, []) := rfl
theorem iDraft_writeSplice_6 : ai_find (ai_tab mDraft_writeSplice) 6 = some (.invokevirtual 23, 9, 60, 2, 1, .ref 3, []) := rfl
theorem iDraft_writeSplice_9 : ai_find (ai_tab mDraft_writeSplice) 9 = some (.aload_n 0, 10, 0, 0, 0, .null, []) := rfl
theorem iDraft_writeSplice_10 : ai_find (ai_tab mDraft_writeSplice) 10 = some (.aload_n 1, 11, 1, 0, 0, .null, []) := rfl
theorem iDraft_writeSplice_11 : ai_find (ai_tab mDraft_writeSplice) 11 = some (.iload_n 2, 12, 2, 0, 0, .null, []) := rfl
theorem iDraft_writeSplice_12 : ai_find (ai_tab mDraft_writeSplice) 12 = some (.invokevirtual 65, 15, 40, 2, 1, .ref 1, []) := rfl
theorem iDraft_writeSplice_15 : ai_find (ai_tab mDraft_writeSplice) 15 = some (.invokevirtual 23, 18, 60, 2, 1, .ref 3, []) := rfl
theorem iDraft_writeSplice_18 : ai_find (ai_tab mDraft_writeSplice) 18 = some (.iconst 0, 19, 0, 0, 0, .int (nI 0), []) := rfl
theorem iDraft_writeSplice_19 : ai_find (ai_tab mDraft_writeSplice) 19 = some (.istore_n 3, 20, 3, 0, 0, .null, []) := rfl
theorem iDraft_writeSplice_20 : ai_find (ai_tab mDraft_writeSplice) 20 = some (.iload_n 3, 21, 3, 0, 0, .null, []) := rfl
theorem iDraft_writeSplice_21 : ai_find (ai_tab mDraft_writeSplice) 21 = some (.aload_n 1, 22, 1, 0, 0, .null, []) := rfl
theorem iDraft_writeSplice_22 : ai_find (ai_tab mDraft_writeSplice) 22 = some (.iload_n 2, 23, 2, 0, 0, .null, []) := rfl
theorem iDraft_writeSplice_23 : ai_find (ai_tab mDraft_writeSplice) 23 = some (.invokevirtual 65, 26, 40, 2, 1, .ref 1, []) := rfl
theorem iDraft_writeSplice_26 : ai_find (ai_tab mDraft_writeSplice) 26 = some (.if_icmp .ge 19, 29, 45, 0, 0, .null, []) := rfl
theorem iDraft_writeSplice_29 : ai_find (ai_tab mDraft_writeSplice) 29 = some (.aload_n 0, 30, 0, 0, 0, .null, []) := rfl
theorem iDraft_writeSplice_30 : ai_find (ai_tab mDraft_writeSplice) 30 = some (.aload_n 1, 31, 1, 0, 0, .null, []) := rfl
theorem iDraft_writeSplice_31 : ai_find (ai_tab mDraft_writeSplice) 31 = some (.iload_n 2, 32, 2, 0, 0, .null, []) := rfl
theorem iDraft_writeSplice_32 : ai_find (ai_tab mDraft_writeSplice) 32 = some (.iload_n 3, 33, 3, 0, 0, .null, []) := rfl
theorem iDraft_writeSplice_33 : ai_find (ai_tab mDraft_writeSplice) 33 = some (.invokevirtual 68, 36, 39, 3, 1, .ref 1, []) := rfl
theorem iDraft_writeSplice_36 : ai_find (ai_tab mDraft_writeSplice) 36 = some (.invokevirtual 59, 39, 69, 2, 1, .ref 3, []) := rfl
theorem iDraft_writeSplice_39 : ai_find (ai_tab mDraft_writeSplice) 39 = some (.iinc 3 1, 42, 3, 0, 0, .int (nI 1), []) := rfl
theorem iDraft_writeSplice_42 : ai_find (ai_tab mDraft_writeSplice) 42 = some (.goto (-22), 45, 20, 0, 0, .null, []) := rfl
theorem iDraft_writeSplice_45 : ai_find (ai_tab mDraft_writeSplice) 45 = some (.return_, 46, 0, 0, 0, .null, []) := rfl
theorem iDraft_writeVarint_0 : ai_find (ai_tab mDraft_writeVarint) 0 = some (.iload_n 1, 1, 1, 0, 0, .null, []) := rfl
theorem iDraft_writeVarint_1 : ai_find (ai_tab mDraft_writeVarint) 1 = some (.ifCond .lt 12, 4, 13, 0, 0, .null, []) := rfl
theorem iDraft_writeVarint_4 : ai_find (ai_tab mDraft_writeVarint) 4 = some (.ldc2_w 72, 7, 0, 0, 0, .long 2, []) := rfl
theorem iDraft_writeVarint_7 : ai_find (ai_tab mDraft_writeVarint) 7 = some (.iload_n 1, 8, 1, 0, 0, .null, []) := rfl
theorem iDraft_writeVarint_8 : ai_find (ai_tab mDraft_writeVarint) 8 = some (.i2l, 9, 0, 0, 0, .null, []) := rfl
theorem iDraft_writeVarint_9 : ai_find (ai_tab mDraft_writeVarint) 9 = some (.lmul, 10, 0, 0, 0, .null, []) := rfl
theorem iDraft_writeVarint_10 : ai_find (ai_tab mDraft_writeVarint) 10 = some (.goto 11, 13, 21, 0, 0, .null, []) := rfl
theorem iDraft_writeVarint_13 : ai_find (ai_tab mDraft_writeVarint) 13 = some (.ldc2_w 74, 16, 0, 0, 0, .long (-2), []) := rfl
theorem iDraft_writeVarint_16 : ai_find (ai_tab mDraft_writeVarint) 16 = some (.iload_n 1, 17, 1, 0, 0, .null, []) := rfl
theorem iDraft_writeVarint_17 : ai_find (ai_tab mDraft_writeVarint) 17 = some (.i2l, 18, 0, 0, 0, .null, []) := rfl
theorem iDraft_writeVarint_18 : ai_find (ai_tab mDraft_writeVarint) 18 = some (.lmul, 19, 0, 0, 0, .null, []) := rfl
theorem iDraft_writeVarint_19 : ai_find (ai_tab mDraft_writeVarint) 19 = some (.lconst 1, 20, 0, 0, 0, .long 1, []) := rfl
theorem iDraft_writeVarint_20 : ai_find (ai_tab mDraft_writeVarint) 20 = some (.lsub, 21, 0, 0, 0, .null, []) := rfl
theorem iDraft_writeVarint_21 : ai_find (ai_tab mDraft_writeVarint) 21 = some (.lstore_n 2, 22, 2, 0, 0, .null, []) := rfl
theorem iDraft_writeVarint_22 : ai_find (ai_tab mDraft_writeVarint) 22 = some (.iconst 0, 23, 0, 0, 0, .int (nI 0), []) := rfl
theorem iDraft_writeVarint_23 : ai_find (ai_tab mDraft_writeVarint) 23 = some (.istore 4, 25, 4, 0, 0, .null, []) := rfl
theorem iDraft_writeVarint_25 : ai_find (ai_tab mDraft_writeVarint) 25 = some (.iload 4, 27, 4, 0, 0, .null, []) := rfl
theorem iDraft_writeVarint_27 : ai_find (ai_tab mDraft_writeVarint) 27 = some (.iconst 4, 28, 0, 0, 0, .int (nI 4), []) := rfl
theorem iDraft_writeVarint_28 : ai_find (ai_tab mDraft_writeVarint) 28 = some (.if_icmp .ge 36, 31, 64, 0, 0, .null, []) := rfl
theorem iDraft_writeVarint_31 : ai_find (ai_tab mDraft_writeVarint) 31 = some (.lload_n 2, 32, 2, 0, 0, .null, []) := rfl
theorem iDraft_writeVarint_32 : ai_find (ai_tab mDraft_writeVarint) 32 = some (.ldc2_w 76, 35, 0, 0, 0, .long 127, []) := rfl
theorem iDraft_writeVarint_35 : ai_find (ai_tab mDraft_writeVarint) 35 = some (.lcmp, 36, 0, 0, 0, .null, []) := rfl
theorem iDraft_writeVarint_36 : ai_find (ai_tab mDraft_writeVarint) 36 = some (.ifCond .le 28, 39, 64, 0, 0, .null, []) := rfl
theorem iDraft_writeVarint_39 : ai_find (ai_tab mDraft_writeVarint) 39 = some (.aload_n 0, 40, 0, 0, 0, .null, []) := rfl
theorem iDraft_writeVarint_40 : ai_find (ai_tab mDraft_writeVarint) 40 = some (.lload_n 2, 41, 2, 0, 0, .null, []) := rfl
theorem iDraft_writeVarint_41 : ai_find (ai_tab mDraft_writeVarint) 41 = some (.ldc2_w 76, 44, 0, 0, 0, .long 127, []) := rfl
theorem iDraft_writeVarint_44 : ai_find (ai_tab mDraft_writeVarint) 44 = some (.land, 45, 0, 0, 0, .null, []) := rfl
theorem iDraft_writeVarint_45 : ai_find (ai_tab mDraft_writeVarint) 45 = some (.l2i, 46, 0, 0, 0, .null, []) := rfl
theorem iDraft_writeVarint_46 : ai_find (ai_tab mDraft_writeVarint) 46 = some (.sipush 128, 49, 0, 0, 0, .int (nI 128), []) := rfl
theorem iDraft_writeVarint_49 : ai_find (ai_tab mDraft_writeVarint) 49 = some (.iadd, 50, 0, 0, 0, .null, []) := rfl
theorem iDraft_writeVarint_50 : ai_find (ai_tab mDraft_writeVarint) 50 = some (.invokevirtual 23, 53, 60, 2, 1, .ref 3, []) := rfl
theorem iDraft_writeVarint_53 : ai_find (ai_tab mDraft_writeVarint) 53 = some (.lload_n 2, 54, 2, 0, 0, .null, []) := rfl
theorem iDraft_writeVarint_54 : ai_find (ai_tab mDraft_writeVarint) 54 = some (.bipush 7, 56, 0, 0, 0, .int (nI 7), []) := rfl
theorem iDraft_writeVarint_56 : ai_find (ai_tab mDraft_writeVarint) 56 = some (.lshr, 57, 0, 0, 0, .null, []) := rfl
theorem iDraft_writeVarint_57 : ai_find (ai_tab mDraft_writeVarint) 57 = some (.lstore_n 2, 58, 2, 0, 0, .null, []) := rfl
theorem iDraft_writeVarint_58 : ai_find (ai_tab mDraft_writeVarint) 58 = some (.iinc 4 1, 61, 4, 0, 0, .int (nI 1), []) := rfl
theorem iDraft_writeVarint_61 : ai_find (ai_tab mDraft_writeVarint) 61 = some (.goto (-36), 64, 25, 0, 0, .null, []) := rfl
theorem iDraft_writeVarint_64 : ai_find (ai_tab mDraft_writeVarint) 64 = some (.aload_n 0, 65, 0, 0, 0, .null, []) := rfl
theorem iDraft_writeVarint_65 : ai_find (ai_tab mDraft_writeVarint) 65 = some (.lload_n 2, 66, 2, 0, 0, .null, []) := rfl
theorem iDraft_writeVarint_66 : ai_find (ai_tab mDraft_writeVarint) 66 = some (.l2i, 67, 0, 0, 0, .null, []) := rfl
theorem iDraft_writeVarint_67 : ai_find (ai_tab mDraft_writeVarint) 67 = some (.invokevirtual 23, 70, 60, 2, 1, .ref 3, []) := rfl
theorem iDraft_writeVarint_70 : ai_find (ai_tab mDraft_writeVarint) 70 = some (.return_, 71, 0, 0, 0, .null, []) := rfl
theorem iGraph_init_0 : ai_find (ai_tab mGraph_init) 0 = some (.aload_n 0, 1, 0, 0, 0, .null, []) := rfl
theorem iGraph_init_1 : ai_find (ai_tab mGraph_init) 1 = some (.invokespecial 3, 4, 0, 1, 3, .null, []) := rfl
theorem iGraph_init_4 : ai_find (ai_tab mGraph_init) 4 = some (.aload_n 0, 5, 0, 0, 0, .null, []) := rfl
theorem iGraph_init_5 : ai_find (ai_tab mGraph_init) 5 = some (.bipush 16, 7, 0, 0, 0, .int (nI 16), []) := rfl
theorem iGraph_init_7 : ai_find (ai_tab mGraph_init) 7 = some (.newarray .int, 9, 0, 0, 0, .null, []) := rfl
theorem iGraph_init_9 : ai_find (ai_tab mGraph_init) 9 = some (.putfield 9, 12, 4, 0, 3, .null, []) := rfl
theorem iGraph_init_12 : ai_find (ai_tab mGraph_init) 12 = some (.aload_n 0, 13, 0, 0, 0, .null, []) := rfl
theorem iGraph_init_13 : ai_find (ai_tab mGraph_init) 13 = some (.bipush 16, 15, 0, 0, 0, .int (nI 16), []) := rfl
theorem iGraph_init_15 : ai_find (ai_tab mGraph_init) 15 = some (.newarray .int, 17, 0, 0, 0, .null, []) := rfl
theorem iGraph_init_17 : ai_find (ai_tab mGraph_init) 17 = some (.putfield 15, 20, 4, 1, 3, .null, []) := rfl
theorem iGraph_init_20 : ai_find (ai_tab mGraph_init) 20 = some (.aload_n 0, 21, 0, 0, 0, .null, []) := rfl
theorem iGraph_init_21 : ai_find (ai_tab mGraph_init) 21 = some (.bipush 48, 23, 0, 0, 0, .int (nI 48), []) := rfl
theorem iGraph_init_23 : ai_find (ai_tab mGraph_init) 23 = some (.newarray .int, 25, 0, 0, 0, .null, []) := rfl
theorem iGraph_init_25 : ai_find (ai_tab mGraph_init) 25 = some (.putfield 18, 28, 4, 2, 3, .null, []) := rfl
theorem iGraph_init_28 : ai_find (ai_tab mGraph_init) 28 = some (.aload_n 0, 29, 0, 0, 0, .null, []) := rfl
theorem iGraph_init_29 : ai_find (ai_tab mGraph_init) 29 = some (.bipush 96, 31, 0, 0, 0, .int (nI 96), []) := rfl
theorem iGraph_init_31 : ai_find (ai_tab mGraph_init) 31 = some (.newarray .int, 33, 0, 0, 0, .null, []) := rfl
theorem iGraph_init_33 : ai_find (ai_tab mGraph_init) 33 = some (.putfield 21, 36, 4, 3, 3, .null, []) := rfl
theorem iGraph_init_36 : ai_find (ai_tab mGraph_init) 36 = some (.aload_n 0, 37, 0, 0, 0, .null, []) := rfl
theorem iGraph_init_37 : ai_find (ai_tab mGraph_init) 37 = some (.getfield 9, 40, 4, 0, 0, .null, []) := rfl
theorem iGraph_init_40 : ai_find (ai_tab mGraph_init) 40 = some (.iconst (-1), 41, 0, 0, 0, .int (-1), []) := rfl
theorem iGraph_init_41 : ai_find (ai_tab mGraph_init) 41 = some (.invokestatic 24, 44, 180, 2, 0, .null, []) := rfl
theorem iGraph_init_44 : ai_find (ai_tab mGraph_init) 44 = some (.return_, 45, 0, 0, 0, .null, []) := rfl
theorem iGraph_admit_0 : ai_find (ai_tab mGraph_admit) 0 = some (.aload_n 0, 1, 0, 0, 0, .null, []) := rfl
theorem iGraph_admit_1 : ai_find (ai_tab mGraph_admit) 1 = some (.iload_n 1, 2, 1, 0, 0, .null, []) := rfl
theorem iGraph_admit_2 : ai_find (ai_tab mGraph_admit) 2 = some (.invokevirtual 41, 5, 77, 2, 1, .ref 4, []) := rfl
theorem iGraph_admit_5 : ai_find (ai_tab mGraph_admit) 5 = some (.aload_n 0, 6, 0, 0, 0, .null, []) := rfl
theorem iGraph_admit_6 : ai_find (ai_tab mGraph_admit) 6 = some (.getfield 9, 9, 4, 0, 0, .null, []) := rfl
theorem iGraph_admit_9 : ai_find (ai_tab mGraph_admit) 9 = some (.iload_n 1, 10, 1, 0, 0, .null, []) := rfl
theorem iGraph_admit_10 : ai_find (ai_tab mGraph_admit) 10 = some (.iload_n 2, 11, 2, 0, 0, .null, []) := rfl
theorem iGraph_admit_11 : ai_find (ai_tab mGraph_admit) 11 = some (.iastore, 12, 0, 0, 0, .null, []) := rfl
theorem iGraph_admit_12 : ai_find (ai_tab mGraph_admit) 12 = some (.return_, 13, 0, 0, 0, .null, []) := rfl
theorem iGraph_append_0 : ai_find (ai_tab mGraph_append) 0 = some (.aload_n 0, 1, 0, 0, 0, .null, []) := rfl
theorem iGraph_append_1 : ai_find (ai_tab mGraph_append) 1 = some (.getfield 15, 4, 4, 1, 0, .null, []) := rfl
theorem iGraph_append_4 : ai_find (ai_tab mGraph_append) 4 = some (.iload_n 1, 5, 1, 0, 0, .null, []) := rfl
theorem iGraph_append_5 : ai_find (ai_tab mGraph_append) 5 = some (.iaload, 6, 0, 0, 0, .null, []) := rfl
theorem iGraph_append_6 : ai_find (ai_tab mGraph_append) 6 = some (.bipush 6, 8, 0, 0, 0, .int (nI 6), []) := rfl
theorem iGraph_append_8 : ai_find (ai_tab mGraph_append) 8 = some (.if_icmp .ge 30, 11, 38, 0, 0, .null, []) := rfl
theorem iGraph_append_11 : ai_find (ai_tab mGraph_append) 11 = some (.aload_n 0, 12, 0, 0, 0, .null, []) := rfl
theorem iGraph_append_12 : ai_find (ai_tab mGraph_append) 12 = some (.getfield 21, 15, 4, 3, 0, .null, []) := rfl
theorem iGraph_append_15 : ai_find (ai_tab mGraph_append) 15 = some (.iload_n 1, 16, 1, 0, 0, .null, []) := rfl
theorem iGraph_append_16 : ai_find (ai_tab mGraph_append) 16 = some (.bipush 6, 18, 0, 0, 0, .int (nI 6), []) := rfl
theorem iGraph_append_18 : ai_find (ai_tab mGraph_append) 18 = some (.imul, 19, 0, 0, 0, .null, []) := rfl
theorem iGraph_append_19 : ai_find (ai_tab mGraph_append) 19 = some (.aload_n 0, 20, 0, 0, 0, .null, []) := rfl
theorem iGraph_append_20 : ai_find (ai_tab mGraph_append) 20 = some (.getfield 15, 23, 4, 1, 0, .null, []) := rfl
theorem iGraph_append_23 : ai_find (ai_tab mGraph_append) 23 = some (.iload_n 1, 24, 1, 0, 0, .null, []) := rfl
theorem iGraph_append_24 : ai_find (ai_tab mGraph_append) 24 = some (.iaload, 25, 0, 0, 0, .null, []) := rfl
theorem iGraph_append_25 : ai_find (ai_tab mGraph_append) 25 = some (.iadd, 26, 0, 0, 0, .null, []) := rfl
theorem iGraph_append_26 : ai_find (ai_tab mGraph_append) 26 = some (.iload_n 2, 27, 2, 0, 0, .null, []) := rfl
theorem iGraph_append_27 : ai_find (ai_tab mGraph_append) 27 = some (.iastore, 28, 0, 0, 0, .null, []) := rfl
theorem iGraph_append_28 : ai_find (ai_tab mGraph_append) 28 = some (.aload_n 0, 29, 0, 0, 0, .null, []) := rfl
theorem iGraph_append_29 : ai_find (ai_tab mGraph_append) 29 = some (.getfield 15, 32, 4, 1, 0, .null, []) := rfl
theorem iGraph_append_32 : ai_find (ai_tab mGraph_append) 32 = some (.iload_n 1, 33, 1, 0, 0, .null, []) := rfl
theorem iGraph_append_33 : ai_find (ai_tab mGraph_append) 33 = some (.dup2, 34, 0, 0, 0, .null, []) := rfl
theorem iGraph_append_34 : ai_find (ai_tab mGraph_append) 34 = some (.iaload, 35, 0, 0, 0, .null, []) := rfl
theorem iGraph_append_35 : ai_find (ai_tab mGraph_append) 35 = some (.iconst 1, 36, 0, 0, 0, .int (nI 1), []) := rfl
theorem iGraph_append_36 : ai_find (ai_tab mGraph_append) 36 = some (.iadd, 37, 0, 0, 0, .null, []) := rfl
theorem iGraph_append_37 : ai_find (ai_tab mGraph_append) 37 = some (.iastore, 38, 0, 0, 0, .null, []) := rfl
theorem iGraph_append_38 : ai_find (ai_tab mGraph_append) 38 = some (.return_, 39, 0, 0, 0, .null, []) := rfl
theorem iGraph_become_0 : ai_find (ai_tab mGraph_become) 0 = some (.aload_n 1, 1, 1, 0, 0, .null, []) := rfl
theorem iGraph_become_1 : ai_find (ai_tab mGraph_become) 1 = some (.getfield 9, 4, 4, 0, 0, .null, []) := rfl
theorem iGraph_become_4 : ai_find (ai_tab mGraph_become) 4 = some (.iconst 0, 5, 0, 0, 0, .int (nI 0), []) := rfl
theorem iGraph_become_5 : ai_find (ai_tab mGraph_become) 5 = some (.aload_n 0, 6, 0, 0, 0, .null, []) := rfl
theorem iGraph_become_6 : ai_find (ai_tab mGraph_become) 6 = some (.getfield 9, 9, 4, 0, 0, .null, []) := rfl
theorem iGraph_become_9 : ai_find (ai_tab mGraph_become) 9 = some (.iconst 0, 10, 0, 0, 0, .int (nI 0), []) := rfl
theorem iGraph_become_10 : ai_find (ai_tab mGraph_become) 10 = some (.aload_n 0, 11, 0, 0, 0, .null, []) := rfl
theorem iGraph_become_11 : ai_find (ai_tab mGraph_become) 11 = some (.getfield 9, 14, 4, 0, 0, .null, []) := rfl
theorem iGraph_become_14 : ai_find (ai_tab mGraph_become) 14 = some (.arraylength, 15, 0, 0, 0, .null, []) := rfl
theorem iGraph_become_15 : ai_find (ai_tab mGraph_become) 15 = some (.invokestatic 48, 18, 0, 5, 5, .null, []) := rfl
theorem iGraph_become_18 : ai_find (ai_tab mGraph_become) 18 = some (.aload_n 1, 19, 1, 0, 0, .null, []) := rfl
theorem iGraph_become_19 : ai_find (ai_tab mGraph_become) 19 = some (.getfield 15, 22, 4, 1, 0, .null, []) := rfl
theorem iGraph_become_22 : ai_find (ai_tab mGraph_become) 22 = some (.iconst 0, 23, 0, 0, 0, .int (nI 0), []) := rfl
theorem iGraph_become_23 : ai_find (ai_tab mGraph_become) 23 = some (.aload_n 0, 24, 0, 0, 0, .null, []) := rfl
theorem iGraph_become_24 : ai_find (ai_tab mGraph_become) 24 = some (.getfield 15, 27, 4, 1, 0, .null, []) := rfl
theorem iGraph_become_27 : ai_find (ai_tab mGraph_become) 27 = some (.iconst 0, 28, 0, 0, 0, .int (nI 0), []) := rfl
theorem iGraph_become_28 : ai_find (ai_tab mGraph_become) 28 = some (.aload_n 0, 29, 0, 0, 0, .null, []) := rfl
theorem iGraph_become_29 : ai_find (ai_tab mGraph_become) 29 = some (.getfield 15, 32, 4, 1, 0, .null, []) := rfl
theorem iGraph_become_32 : ai_find (ai_tab mGraph_become) 32 = some (.arraylength, 33, 0, 0, 0, .null, []) := rfl
theorem iGraph_become_33 : ai_find (ai_tab mGraph_become) 33 = some (.invokestatic 48, 36, 0, 5, 5, .null, []) := rfl
theorem iGraph_become_36 : ai_find (ai_tab mGraph_become) 36 = some (.aload_n 1, 37, 1, 0, 0, .null, []) := rfl
theorem iGraph_become_37 : ai_find (ai_tab mGraph_become) 37 = some (.getfield 18, 40, 4, 2, 0, .null, []) := rfl
theorem iGraph_become_40 : ai_find (ai_tab mGraph_become) 40 = some (.iconst 0, 41, 0, 0, 0, .int (nI 0), []) := rfl
theorem iGraph_become_41 : ai_find (ai_tab mGraph_become) 41 = some (.aload_n 0, 42, 0, 0, 0, .null, []) := rfl
theorem iGraph_become_42 : ai_find (ai_tab mGraph_become) 42 = some (.getfield 18, 45, 4, 2, 0, .null, []) := rfl
theorem iGraph_become_45 : ai_find (ai_tab mGraph_become) 45 = some (.iconst 0, 46, 0, 0, 0, .int (nI 0), []) := rfl
theorem iGraph_become_46 : ai_find (ai_tab mGraph_become) 46 = some (.aload_n 0, 47, 0, 0, 0, .null, []) := rfl
theorem iGraph_become_47 : ai_find (ai_tab mGraph_become) 47 = some (.getfield 18, 50, 4, 2, 0, .null, []) := rfl
theorem iGraph_become_50 : ai_find (ai_tab mGraph_become) 50 = some (.arraylength, 51, 0, 0, 0, .null, []) := rfl
theorem iGraph_become_51 : ai_find (ai_tab mGraph_become) 51 = some (.invokestatic 48, 54, 0, 5, 5, .null, []) := rfl
theorem iGraph_become_54 : ai_find (ai_tab mGraph_become) 54 = some (.aload_n 1, 55, 1, 0, 0, .null, []) := rfl
theorem iGraph_become_55 : ai_find (ai_tab mGraph_become) 55 = some (.getfield 21, 58, 4, 3, 0, .null, []) := rfl
theorem iGraph_become_58 : ai_find (ai_tab mGraph_become) 58 = some (.iconst 0, 59, 0, 0, 0, .int (nI 0), []) := rfl
theorem iGraph_become_59 : ai_find (ai_tab mGraph_become) 59 = some (.aload_n 0, 60, 0, 0, 0, .null, []) := rfl
theorem iGraph_become_60 : ai_find (ai_tab mGraph_become) 60 = some (.getfield 21, 63, 4, 3, 0, .null, []) := rfl
theorem iGraph_become_63 : ai_find (ai_tab mGraph_become) 63 = some (.iconst 0, 64, 0, 0, 0, .int (nI 0), []) := rfl
theorem iGraph_become_64 : ai_find (ai_tab mGraph_become) 64 = some (.aload_n 0, 65, 0, 0, 0, .null, []) := rfl
theorem iGraph_become_65 : ai_find (ai_tab mGraph_become) 65 = some (.getfield 21, 68, 4, 3, 0, .null, []) := rfl
theorem iGraph_become_68 : ai_find (ai_tab mGraph_become) 68 = some (.arraylength, 69, 0, 0, 0, .null, []) := rfl
theorem iGraph_become_69 : ai_find (ai_tab mGraph_become) 69 = some (.invokestatic 48, 72, 0, 5, 5, .null, []) := rfl
theorem iGraph_become_72 : ai_find (ai_tab mGraph_become) 72 = some (.return_, 73, 0, 0, 0, .null, []) := rfl
theorem iGraph_closeItem_0 : ai_find (ai_tab mGraph_closeItem) 0 = some (.iload_n 1, 1, 1, 0, 0, .null, []) := rfl
theorem iGraph_closeItem_1 : ai_find (ai_tab mGraph_closeItem) 1 = some (.bipush 6, 3, 0, 0, 0, .int (nI 6), []) := rfl
theorem iGraph_closeItem_3 : ai_find (ai_tab mGraph_closeItem) 3 = some (.imul, 4, 0, 0, 0, .null, []) := rfl
theorem iGraph_closeItem_4 : ai_find (ai_tab mGraph_closeItem) 4 = some (.istore_n 3, 5, 3, 0, 0, .null, []) := rfl
theorem iGraph_closeItem_5 : ai_find (ai_tab mGraph_closeItem) 5 = some (.aload_n 0, 6, 0, 0, 0, .null, []) := rfl
theorem iGraph_closeItem_6 : ai_find (ai_tab mGraph_closeItem) 6 = some (.getfield 15, 9, 4, 1, 0, .null, []) := rfl
theorem iGraph_closeItem_9 : ai_find (ai_tab mGraph_closeItem) 9 = some (.iload_n 1, 10, 1, 0, 0, .null, []) := rfl
theorem iGraph_closeItem_10 : ai_find (ai_tab mGraph_closeItem) 10 = some (.dup2, 11, 0, 0, 0, .null, []) := rfl
theorem iGraph_closeItem_11 : ai_find (ai_tab mGraph_closeItem) 11 = some (.iaload, 12, 0, 0, 0, .null, []) := rfl
theorem iGraph_closeItem_12 : ai_find (ai_tab mGraph_closeItem) 12 = some (.iconst 1, 13, 0, 0, 0, .int (nI 1), []) := rfl
theorem iGraph_closeItem_13 : ai_find (ai_tab mGraph_closeItem) 13 = some (.isub, 14, 0, 0, 0, .null, []) := rfl
theorem iGraph_closeItem_14 : ai_find (ai_tab mGraph_closeItem) 14 = some (.iastore, 15, 0, 0, 0, .null, []) := rfl
theorem iGraph_closeItem_15 : ai_find (ai_tab mGraph_closeItem) 15 = some (.iload_n 2, 16, 2, 0, 0, .null, []) := rfl
theorem iGraph_closeItem_16 : ai_find (ai_tab mGraph_closeItem) 16 = some (.istore 4, 18, 4, 0, 0, .null, []) := rfl
theorem iGraph_closeItem_18 : ai_find (ai_tab mGraph_closeItem) 18 = some (.iload 4, 20, 4, 0, 0, .null, []) := rfl
theorem iGraph_closeItem_20 : ai_find (ai_tab mGraph_closeItem) 20 = some (.aload_n 0, 21, 0, 0, 0, .null, []) := rfl
theorem iGraph_closeItem_21 : ai_find (ai_tab mGraph_closeItem) 21 = some (.getfield 15, 24, 4, 1, 0, .null, []) := rfl
theorem iGraph_closeItem_24 : ai_find (ai_tab mGraph_closeItem) 24 = some (.iload_n 1, 25, 1, 0, 0, .null, []) := rfl
theorem iGraph_closeItem_25 : ai_find (ai_tab mGraph_closeItem) 25 = some (.iaload, 26, 0, 0, 0, .null, []) := rfl
theorem iGraph_closeItem_26 : ai_find (ai_tab mGraph_closeItem) 26 = some (.if_icmp .ge 29, 29, 55, 0, 0, .null, []) := rfl
theorem iGraph_closeItem_29 : ai_find (ai_tab mGraph_closeItem) 29 = some (.aload_n 0, 30, 0, 0, 0, .null, []) := rfl
theorem iGraph_closeItem_30 : ai_find (ai_tab mGraph_closeItem) 30 = some (.getfield 21, 33, 4, 3, 0, .null, []) := rfl
theorem iGraph_closeItem_33 : ai_find (ai_tab mGraph_closeItem) 33 = some (.iload_n 3, 34, 3, 0, 0, .null, []) := rfl
theorem iGraph_closeItem_34 : ai_find (ai_tab mGraph_closeItem) 34 = some (.iload 4, 36, 4, 0, 0, .null, []) := rfl
theorem iGraph_closeItem_36 : ai_find (ai_tab mGraph_closeItem) 36 = some (.iadd, 37, 0, 0, 0, .null, []) := rfl
theorem iGraph_closeItem_37 : ai_find (ai_tab mGraph_closeItem) 37 = some (.aload_n 0, 38, 0, 0, 0, .null, []) := rfl
theorem iGraph_closeItem_38 : ai_find (ai_tab mGraph_closeItem) 38 = some (.getfield 21, 41, 4, 3, 0, .null, []) := rfl
theorem iGraph_closeItem_41 : ai_find (ai_tab mGraph_closeItem) 41 = some (.iload_n 3, 42, 3, 0, 0, .null, []) := rfl
theorem iGraph_closeItem_42 : ai_find (ai_tab mGraph_closeItem) 42 = some (.iload 4, 44, 4, 0, 0, .null, []) := rfl
theorem iGraph_closeItem_44 : ai_find (ai_tab mGraph_closeItem) 44 = some (.iadd, 45, 0, 0, 0, .null, []) := rfl
theorem iGraph_closeItem_45 : ai_find (ai_tab mGraph_closeItem) 45 = some (.iconst 1, 46, 0, 0, 0, .int (nI 1), []) := rfl
theorem iGraph_closeItem_46 : ai_find (ai_tab mGraph_closeItem) 46 = some (.iadd, 47, 0, 0, 0, .null, []) := rfl
theorem iGraph_closeItem_47 : ai_find (ai_tab mGraph_closeItem) 47 = some (.iaload, 48, 0, 0, 0, .null, []) := rfl
theorem iGraph_closeItem_48 : ai_find (ai_tab mGraph_closeItem) 48 = some (.iastore, 49, 0, 0, 0, .null, []) := rfl
theorem iGraph_closeItem_49 : ai_find (ai_tab mGraph_closeItem) 49 = some (.iinc 4 1, 52, 4, 0, 0, .int (nI 1), []) := rfl
theorem iGraph_closeItem_52 : ai_find (ai_tab mGraph_closeItem) 52 = some (.goto (-34), 55, 18, 0, 0, .null, []) := rfl
theorem iGraph_closeItem_55 : ai_find (ai_tab mGraph_closeItem) 55 = some (.aload_n 0, 56, 0, 0, 0, .null, []) := rfl
theorem iGraph_closeItem_56 : ai_find (ai_tab mGraph_closeItem) 56 = some (.getfield 21, 59, 4, 3, 0, .null, []) := rfl
theorem iGraph_closeItem_59 : ai_find (ai_tab mGraph_closeItem) 59 = some (.iload_n 3, 60, 3, 0, 0, .null, []) := rfl
theorem iGraph_closeItem_60 : ai_find (ai_tab mGraph_closeItem) 60 = some (.aload_n 0, 61, 0, 0, 0, .null, []) := rfl
theorem iGraph_closeItem_61 : ai_find (ai_tab mGraph_closeItem) 61 = some (.getfield 15, 64, 4, 1, 0, .null, []) := rfl
theorem iGraph_closeItem_64 : ai_find (ai_tab mGraph_closeItem) 64 = some (.iload_n 1, 65, 1, 0, 0, .null, []) := rfl
theorem iGraph_closeItem_65 : ai_find (ai_tab mGraph_closeItem) 65 = some (.iaload, 66, 0, 0, 0, .null, []) := rfl
theorem iGraph_closeItem_66 : ai_find (ai_tab mGraph_closeItem) 66 = some (.iadd, 67, 0, 0, 0, .null, []) := rfl
theorem iGraph_closeItem_67 : ai_find (ai_tab mGraph_closeItem) 67 = some (.iconst 0, 68, 0, 0, 0, .int (nI 0), []) := rfl
theorem iGraph_closeItem_68 : ai_find (ai_tab mGraph_closeItem) 68 = some (.iastore, 69, 0, 0, 0, .null, []) := rfl
theorem iGraph_closeItem_69 : ai_find (ai_tab mGraph_closeItem) 69 = some (.return_, 70, 0, 0, 0, .null, []) := rfl
theorem iGraph_content_0 : ai_find (ai_tab mGraph_content) 0 = some (.aload_n 0, 1, 0, 0, 0, .null, []) := rfl
theorem iGraph_content_1 : ai_find (ai_tab mGraph_content) 1 = some (.iload_n 1, 2, 1, 0, 0, .null, []) := rfl
theorem iGraph_content_2 : ai_find (ai_tab mGraph_content) 2 = some (.iload_n 2, 3, 2, 0, 0, .null, []) := rfl
theorem iGraph_content_3 : ai_find (ai_tab mGraph_content) 3 = some (.invokevirtual 38, 6, 82, 3, 1, .ref 4, []) := rfl
theorem iGraph_content_6 : ai_find (ai_tab mGraph_content) 6 = some (.ifCond .eq 17, 9, 23, 0, 0, .null, []) := rfl
theorem iGraph_content_9 : ai_find (ai_tab mGraph_content) 9 = some (.aload_n 0, 10, 0, 0, 0, .null, []) := rfl
theorem iGraph_content_10 : ai_find (ai_tab mGraph_content) 10 = some (.getfield 21, 13, 4, 3, 0, .null, []) := rfl
theorem iGraph_content_13 : ai_find (ai_tab mGraph_content) 13 = some (.iload_n 1, 14, 1, 0, 0, .null, []) := rfl
theorem iGraph_content_14 : ai_find (ai_tab mGraph_content) 14 = some (.bipush 6, 16, 0, 0, 0, .int (nI 6), []) := rfl
theorem iGraph_content_16 : ai_find (ai_tab mGraph_content) 16 = some (.imul, 17, 0, 0, 0, .null, []) := rfl
theorem iGraph_content_17 : ai_find (ai_tab mGraph_content) 17 = some (.iload_n 2, 18, 2, 0, 0, .null, []) := rfl
theorem iGraph_content_18 : ai_find (ai_tab mGraph_content) 18 = some (.iadd, 19, 0, 0, 0, .null, []) := rfl
theorem iGraph_content_19 : ai_find (ai_tab mGraph_content) 19 = some (.iaload, 20, 0, 0, 0, .null, []) := rfl
theorem iGraph_content_20 : ai_find (ai_tab mGraph_content) 20 = some (.goto 4, 23, 24, 0, 0, .null, []) := rfl
theorem iGraph_content_23 : ai_find (ai_tab mGraph_content) 23 = some (.iconst 0, 24, 0, 0, 0, .int (nI 0), []) := rfl
theorem iGraph_content_24 : ai_find (ai_tab mGraph_content) 24 = some (.ireturn, 25, 0, 0, 0, .null, []) := rfl
theorem iGraph_dropUnreached_0 : ai_find (ai_tab mGraph_dropUnreached) 0 = some (.aload_n 0, 1, 0, 0, 0, .null, []) := rfl
theorem iGraph_dropUnreached_1 : ai_find (ai_tab mGraph_dropUnreached) 1 = some (.invokevirtual 58, 4, 88, 1, 1, .ref 4, []) := rfl
theorem iGraph_dropUnreached_4 : ai_find (ai_tab mGraph_dropUnreached) 4 = some (.istore_n 1, 5, 1, 0, 0, .null, []) := rfl
theorem iGraph_dropUnreached_5 : ai_find (ai_tab mGraph_dropUnreached) 5 = some (.iconst 0, 6, 0, 0, 0, .int (nI 0), []) := rfl
theorem iGraph_dropUnreached_6 : ai_find (ai_tab mGraph_dropUnreached) 6 = some (.istore_n 2, 7, 2, 0, 0, .null, []) := rfl
theorem iGraph_dropUnreached_7 : ai_find (ai_tab mGraph_dropUnreached) 7 = some (.iload_n 2, 8, 2, 0, 0, .null, []) := rfl
theorem iGraph_dropUnreached_8 : ai_find (ai_tab mGraph_dropUnreached) 8 = some (.bipush 16, 10, 0, 0, 0, .int (nI 16), []) := rfl
theorem iGraph_dropUnreached_10 : ai_find (ai_tab mGraph_dropUnreached) 10 = some (.if_icmp .ge 22, 13, 32, 0, 0, .null, []) := rfl
theorem iGraph_dropUnreached_13 : ai_find (ai_tab mGraph_dropUnreached) 13 = some (.iload_n 1, 14, 1, 0, 0, .null, []) := rfl
theorem iGraph_dropUnreached_14 : ai_find (ai_tab mGraph_dropUnreached) 14 = some (.iload_n 2, 15, 2, 0, 0, .null, []) := rfl
theorem iGraph_dropUnreached_15 : ai_find (ai_tab mGraph_dropUnreached) 15 = some (.ishr, 16, 0, 0, 0, .null, []) := rfl
theorem iGraph_dropUnreached_16 : ai_find (ai_tab mGraph_dropUnreached) 16 = some (.iconst 1, 17, 0, 0, 0, .int (nI 1), []) := rfl
theorem iGraph_dropUnreached_17 : ai_find (ai_tab mGraph_dropUnreached) 17 = some (.iand, 18, 0, 0, 0, .null, []) := rfl
theorem iGraph_dropUnreached_18 : ai_find (ai_tab mGraph_dropUnreached) 18 = some (.ifCond .ne 8, 21, 26, 0, 0, .null, []) := rfl
theorem iGraph_dropUnreached_21 : ai_find (ai_tab mGraph_dropUnreached) 21 = some (.aload_n 0, 22, 0, 0, 0, .null, []) := rfl
theorem iGraph_dropUnreached_22 : ai_find (ai_tab mGraph_dropUnreached) 22 = some (.iload_n 2, 23, 2, 0, 0, .null, []) := rfl
theorem iGraph_dropUnreached_23 : ai_find (ai_tab mGraph_dropUnreached) 23 = some (.invokevirtual 41, 26, 77, 2, 1, .ref 4, []) := rfl
theorem iGraph_dropUnreached_26 : ai_find (ai_tab mGraph_dropUnreached) 26 = some (.iinc 2 1, 29, 2, 0, 0, .int (nI 1), []) := rfl
theorem iGraph_dropUnreached_29 : ai_find (ai_tab mGraph_dropUnreached) 29 = some (.goto (-22), 32, 7, 0, 0, .null, []) := rfl
theorem iGraph_dropUnreached_32 : ai_find (ai_tab mGraph_dropUnreached) 32 = some (.return_, 33, 0, 0, 0, .null, []) := rfl
theorem iGraph_empty_0 : ai_find (ai_tab mGraph_empty) 0 = some (.aload_n 0, 1, 0, 0, 0, .null, []) := rfl
theorem iGraph_empty_1 : ai_find (ai_tab mGraph_empty) 1 = some (.getfield 9, 4, 4, 0, 0, .null, []) := rfl
theorem iGraph_empty_4 : ai_find (ai_tab mGraph_empty) 4 = some (.iload_n 1, 5, 1, 0, 0, .null, []) := rfl
theorem iGraph_empty_5 : ai_find (ai_tab mGraph_empty) 5 = some (.iconst (-1), 6, 0, 0, 0, .int (-1), []) := rfl
theorem iGraph_empty_6 : ai_find (ai_tab mGraph_empty) 6 = some (.iastore, 7, 0, 0, 0, .null, []) := rfl
theorem iGraph_empty_7 : ai_find (ai_tab mGraph_empty) 7 = some (.aload_n 0, 8, 0, 0, 0, .null, []) := rfl
theorem iGraph_empty_8 : ai_find (ai_tab mGraph_empty) 8 = some (.getfield 15, 11, 4, 1, 0, .null, []) := rfl
theorem iGraph_empty_11 : ai_find (ai_tab mGraph_empty) 11 = some (.iload_n 1, 12, 1, 0, 0, .null, []) := rfl
theorem iGraph_empty_12 : ai_find (ai_tab mGraph_empty) 12 = some (.iconst 0, 13, 0, 0, 0, .int (nI 0), []) := rfl
theorem iGraph_empty_13 : ai_find (ai_tab mGraph_empty) 13 = some (.iastore, 14, 0, 0, 0, .null, []) := rfl
theorem iGraph_empty_14 : ai_find (ai_tab mGraph_empty) 14 = some (.aload_n 0, 15, 0, 0, 0, .null, []) := rfl
theorem iGraph_empty_15 : ai_find (ai_tab mGraph_empty) 15 = some (.getfield 18, 18, 4, 2, 0, .null, []) := rfl
theorem iGraph_empty_18 : ai_find (ai_tab mGraph_empty) 18 = some (.iload_n 1, 19, 1, 0, 0, .null, []) := rfl
theorem iGraph_empty_19 : ai_find (ai_tab mGraph_empty) 19 = some (.iconst 3, 20, 0, 0, 0, .int (nI 3), []) := rfl
theorem iGraph_empty_20 : ai_find (ai_tab mGraph_empty) 20 = some (.imul, 21, 0, 0, 0, .null, []) := rfl
theorem iGraph_empty_21 : ai_find (ai_tab mGraph_empty) 21 = some (.iload_n 1, 22, 1, 0, 0, .null, []) := rfl
theorem iGraph_empty_22 : ai_find (ai_tab mGraph_empty) 22 = some (.iconst 1, 23, 0, 0, 0, .int (nI 1), []) := rfl
theorem iGraph_empty_23 : ai_find (ai_tab mGraph_empty) 23 = some (.iadd, 24, 0, 0, 0, .null, []) := rfl
theorem iGraph_empty_24 : ai_find (ai_tab mGraph_empty) 24 = some (.iconst 3, 25, 0, 0, 0, .int (nI 3), []) := rfl
theorem iGraph_empty_25 : ai_find (ai_tab mGraph_empty) 25 = some (.imul, 26, 0, 0, 0, .null, []) := rfl
theorem iGraph_empty_26 : ai_find (ai_tab mGraph_empty) 26 = some (.iconst 0, 27, 0, 0, 0, .int (nI 0), []) := rfl
theorem iGraph_empty_27 : ai_find (ai_tab mGraph_empty) 27 = some (.invokestatic 45, 30, 181, 4, 0, .null, []) := rfl
theorem iGraph_empty_30 : ai_find (ai_tab mGraph_empty) 30 = some (.aload_n 0, 31, 0, 0, 0, .null, []) := rfl
theorem iGraph_empty_31 : ai_find (ai_tab mGraph_empty) 31 = some (.getfield 21, 34, 4, 3, 0, .null, []) := rfl
theorem iGraph_empty_34 : ai_find (ai_tab mGraph_empty) 34 = some (.iload_n 1, 35, 1, 0, 0, .null, []) := rfl
theorem iGraph_empty_35 : ai_find (ai_tab mGraph_empty) 35 = some (.bipush 6, 37, 0, 0, 0, .int (nI 6), []) := rfl
theorem iGraph_empty_37 : ai_find (ai_tab mGraph_empty) 37 = some (.imul, 38, 0, 0, 0, .null, []) := rfl
theorem iGraph_empty_38 : ai_find (ai_tab mGraph_empty) 38 = some (.iload_n 1, 39, 1, 0, 0, .null, []) := rfl
theorem iGraph_empty_39 : ai_find (ai_tab mGraph_empty) 39 = some (.iconst 1, 40, 0, 0, 0, .int (nI 1), []) := rfl
theorem iGraph_empty_40 : ai_find (ai_tab mGraph_empty) 40 = some (.iadd, 41, 0, 0, 0, .null, []) := rfl
theorem iGraph_empty_41 : ai_find (ai_tab mGraph_empty) 41 = some (.bipush 6, 43, 0, 0, 0, .int (nI 6), []) := rfl
theorem iGraph_empty_43 : ai_find (ai_tab mGraph_empty) 43 = some (.imul, 44, 0, 0, 0, .null, []) := rfl
theorem iGraph_empty_44 : ai_find (ai_tab mGraph_empty) 44 = some (.iconst 0, 45, 0, 0, 0, .int (nI 0), []) := rfl
theorem iGraph_empty_45 : ai_find (ai_tab mGraph_empty) 45 = some (.invokestatic 45, 48, 181, 4, 0, .null, []) := rfl
theorem iGraph_empty_48 : ai_find (ai_tab mGraph_empty) 48 = some (.return_, 49, 0, 0, 0, .null, []) := rfl
theorem iGraph_fill_0 : ai_find (ai_tab mGraph_fill) 0 = some (.aload_n 0, 1, 0, 0, 0, .null, []) := rfl
theorem iGraph_fill_1 : ai_find (ai_tab mGraph_fill) 1 = some (.getfield 18, 4, 4, 2, 0, .null, []) := rfl
theorem iGraph_fill_4 : ai_find (ai_tab mGraph_fill) 4 = some (.iload_n 1, 5, 1, 0, 0, .null, []) := rfl
theorem iGraph_fill_5 : ai_find (ai_tab mGraph_fill) 5 = some (.iconst 3, 6, 0, 0, 0, .int (nI 3), []) := rfl
theorem iGraph_fill_6 : ai_find (ai_tab mGraph_fill) 6 = some (.imul, 7, 0, 0, 0, .null, []) := rfl
theorem iGraph_fill_7 : ai_find (ai_tab mGraph_fill) 7 = some (.iload_n 2, 8, 2, 0, 0, .null, []) := rfl
theorem iGraph_fill_8 : ai_find (ai_tab mGraph_fill) 8 = some (.iadd, 9, 0, 0, 0, .null, []) := rfl
theorem iGraph_fill_9 : ai_find (ai_tab mGraph_fill) 9 = some (.iload_n 3, 10, 3, 0, 0, .null, []) := rfl
theorem iGraph_fill_10 : ai_find (ai_tab mGraph_fill) 10 = some (.iastore, 11, 0, 0, 0, .null, []) := rfl
theorem iGraph_fill_11 : ai_find (ai_tab mGraph_fill) 11 = some (.aload_n 0, 12, 0, 0, 0, .null, []) := rfl
theorem iGraph_fill_12 : ai_find (ai_tab mGraph_fill) 12 = some (.getfield 21, 15, 4, 3, 0, .null, []) := rfl
theorem iGraph_fill_15 : ai_find (ai_tab mGraph_fill) 15 = some (.iload_n 1, 16, 1, 0, 0, .null, []) := rfl
theorem iGraph_fill_16 : ai_find (ai_tab mGraph_fill) 16 = some (.bipush 6, 18, 0, 0, 0, .int (nI 6), []) := rfl
theorem iGraph_fill_18 : ai_find (ai_tab mGraph_fill) 18 = some (.imul, 19, 0, 0, 0, .null, []) := rfl
theorem iGraph_fill_19 : ai_find (ai_tab mGraph_fill) 19 = some (.iload_n 2, 20, 2, 0, 0, .null, []) := rfl
theorem iGraph_fill_20 : ai_find (ai_tab mGraph_fill) 20 = some (.iadd, 21, 0, 0, 0, .null, []) := rfl
theorem iGraph_fill_21 : ai_find (ai_tab mGraph_fill) 21 = some (.iload 4, 23, 4, 0, 0, .null, []) := rfl
theorem iGraph_fill_23 : ai_find (ai_tab mGraph_fill) 23 = some (.iastore, 24, 0, 0, 0, .null, []) := rfl
theorem iGraph_fill_24 : ai_find (ai_tab mGraph_fill) 24 = some (.return_, 25, 0, 0, 0, .null, []) := rfl
theorem iGraph_form_0 : ai_find (ai_tab mGraph_form) 0 = some (.iload_n 1, 1, 1, 0, 0, .null, []) := rfl
theorem iGraph_form_1 : ai_find (ai_tab mGraph_form) 1 = some (.ifCond .lt 18, 4, 19, 0, 0, .null, []) := rfl
theorem iGraph_form_4 : ai_find (ai_tab mGraph_form) 4 = some (.iload_n 1, 5, 1, 0, 0, .null, []) := rfl
theorem iGraph_form_5 : ai_find (ai_tab mGraph_form) 5 = some (.bipush 16, 7, 0, 0, 0, .int (nI 16), []) := rfl
theorem iGraph_form_7 : ai_find (ai_tab mGraph_form) 7 = some (.if_icmp .ge 12, 10, 19, 0, 0, .null, []) := rfl
theorem iGraph_form_10 : ai_find (ai_tab mGraph_form) 10 = some (.aload_n 0, 11, 0, 0, 0, .null, []) := rfl
theorem iGraph_form_11 : ai_find (ai_tab mGraph_form) 11 = some (.getfield 9, 14, 4, 0, 0, .null, []) := rfl
theorem iGraph_form_14 : ai_find (ai_tab mGraph_form) 14 = some (.iload_n 1, 15, 1, 0, 0, .null, []) := rfl
theorem iGraph_form_15 : ai_find (ai_tab mGraph_form) 15 = some (.iaload, 16, 0, 0, 0, .null, []) := rfl
theorem iGraph_form_16 : ai_find (ai_tab mGraph_form) 16 = some (.goto 4, 19, 20, 0, 0, .null, []) := rfl
theorem iGraph_form_19 : ai_find (ai_tab mGraph_form) 19 = some (.iconst (-1), 20, 0, 0, 0, .int (-1), []) := rfl
theorem iGraph_form_20 : ai_find (ai_tab mGraph_form) 20 = some (.ireturn, 21, 0, 0, 0, .null, []) := rfl
theorem iGraph_has_0 : ai_find (ai_tab mGraph_has) 0 = some (.aload_n 0, 1, 0, 0, 0, .null, []) := rfl
theorem iGraph_has_1 : ai_find (ai_tab mGraph_has) 1 = some (.iload_n 1, 2, 1, 0, 0, .null, []) := rfl
theorem iGraph_has_2 : ai_find (ai_tab mGraph_has) 2 = some (.invokevirtual 30, 5, 79, 2, 1, .ref 4, []) := rfl
theorem iGraph_has_5 : ai_find (ai_tab mGraph_has) 5 = some (.iconst (-1), 6, 0, 0, 0, .int (-1), []) := rfl
theorem iGraph_has_6 : ai_find (ai_tab mGraph_has) 6 = some (.if_icmp .eq 7, 9, 13, 0, 0, .null, []) := rfl
theorem iGraph_has_9 : ai_find (ai_tab mGraph_has) 9 = some (.iconst 1, 10, 0, 0, 0, .int (nI 1), []) := rfl
theorem iGraph_has_10 : ai_find (ai_tab mGraph_has) 10 = some (.goto 4, 13, 14, 0, 0, .null, []) := rfl
theorem iGraph_has_13 : ai_find (ai_tab mGraph_has) 13 = some (.iconst 0, 14, 0, 0, 0, .int (nI 0), []) := rfl
theorem iGraph_has_14 : ai_find (ai_tab mGraph_has) 14 = some (.ireturn, 15, 1, 0, 0, .null, []) := rfl
theorem iGraph_hasItem_0 : ai_find (ai_tab mGraph_hasItem) 0 = some (.aload_n 0, 1, 0, 0, 0, .null, []) := rfl
theorem iGraph_hasItem_1 : ai_find (ai_tab mGraph_hasItem) 1 = some (.iload_n 1, 2, 1, 0, 0, .null, []) := rfl
theorem iGraph_hasItem_2 : ai_find (ai_tab mGraph_hasItem) 2 = some (.invokevirtual 30, 5, 79, 2, 1, .ref 4, []) := rfl
theorem iGraph_hasItem_5 : ai_find (ai_tab mGraph_hasItem) 5 = some (.iconst 1, 6, 0, 0, 0, .int (nI 1), []) := rfl
theorem iGraph_hasItem_6 : ai_find (ai_tab mGraph_hasItem) 6 = some (.if_icmp .ne 21, 9, 27, 0, 0, .null, []) := rfl
theorem iGraph_hasItem_9 : ai_find (ai_tab mGraph_hasItem) 9 = some (.iload_n 2, 10, 2, 0, 0, .null, []) := rfl
theorem iGraph_hasItem_10 : ai_find (ai_tab mGraph_hasItem) 10 = some (.ifCond .lt 17, 13, 27, 0, 0, .null, []) := rfl
theorem iGraph_hasItem_13 : ai_find (ai_tab mGraph_hasItem) 13 = some (.iload_n 2, 14, 2, 0, 0, .null, []) := rfl
theorem iGraph_hasItem_14 : ai_find (ai_tab mGraph_hasItem) 14 = some (.aload_n 0, 15, 0, 0, 0, .null, []) := rfl
theorem iGraph_hasItem_15 : ai_find (ai_tab mGraph_hasItem) 15 = some (.getfield 15, 18, 4, 1, 0, .null, []) := rfl
theorem iGraph_hasItem_18 : ai_find (ai_tab mGraph_hasItem) 18 = some (.iload_n 1, 19, 1, 0, 0, .null, []) := rfl
theorem iGraph_hasItem_19 : ai_find (ai_tab mGraph_hasItem) 19 = some (.iaload, 20, 0, 0, 0, .null, []) := rfl
theorem iGraph_hasItem_20 : ai_find (ai_tab mGraph_hasItem) 20 = some (.if_icmp .ge 7, 23, 27, 0, 0, .null, []) := rfl
theorem iGraph_hasItem_23 : ai_find (ai_tab mGraph_hasItem) 23 = some (.iconst 1, 24, 0, 0, 0, .int (nI 1), []) := rfl
theorem iGraph_hasItem_24 : ai_find (ai_tab mGraph_hasItem) 24 = some (.goto 4, 27, 28, 0, 0, .null, []) := rfl
theorem iGraph_hasItem_27 : ai_find (ai_tab mGraph_hasItem) 27 = some (.iconst 0, 28, 0, 0, 0, .int (nI 0), []) := rfl
theorem iGraph_hasItem_28 : ai_find (ai_tab mGraph_hasItem) 28 = some (.ireturn, 29, 1, 0, 0, .null, []) := rfl
theorem iGraph_hasSlot_0 : ai_find (ai_tab mGraph_hasSlot) 0 = some (.aload_n 0, 1, 0, 0, 0, .null, []) := rfl
theorem iGraph_hasSlot_1 : ai_find (ai_tab mGraph_hasSlot) 1 = some (.iload_n 1, 2, 1, 0, 0, .null, []) := rfl
theorem iGraph_hasSlot_2 : ai_find (ai_tab mGraph_hasSlot) 2 = some (.invokevirtual 30, 5, 79, 2, 1, .ref 4, []) := rfl
theorem iGraph_hasSlot_5 : ai_find (ai_tab mGraph_hasSlot) 5 = some (.ifCond .ne 16, 8, 21, 0, 0, .null, []) := rfl
theorem iGraph_hasSlot_8 : ai_find (ai_tab mGraph_hasSlot) 8 = some (.iload_n 2, 9, 2, 0, 0, .null, []) := rfl
theorem iGraph_hasSlot_9 : ai_find (ai_tab mGraph_hasSlot) 9 = some (.ifCond .lt 12, 12, 21, 0, 0, .null, []) := rfl
theorem iGraph_hasSlot_12 : ai_find (ai_tab mGraph_hasSlot) 12 = some (.iload_n 2, 13, 2, 0, 0, .null, []) := rfl
theorem iGraph_hasSlot_13 : ai_find (ai_tab mGraph_hasSlot) 13 = some (.iconst 3, 14, 0, 0, 0, .int (nI 3), []) := rfl
theorem iGraph_hasSlot_14 : ai_find (ai_tab mGraph_hasSlot) 14 = some (.if_icmp .ge 7, 17, 21, 0, 0, .null, []) := rfl
theorem iGraph_hasSlot_17 : ai_find (ai_tab mGraph_hasSlot) 17 = some (.iconst 1, 18, 0, 0, 0, .int (nI 1), []) := rfl
theorem iGraph_hasSlot_18 : ai_find (ai_tab mGraph_hasSlot) 18 = some (.goto 4, 21, 22, 0, 0, .null, []) := rfl
theorem iGraph_hasSlot_21 : ai_find (ai_tab mGraph_hasSlot) 21 = some (.iconst 0, 22, 0, 0, 0, .int (nI 0), []) := rfl
theorem iGraph_hasSlot_22 : ai_find (ai_tab mGraph_hasSlot) 22 = some (.ireturn, 23, 1, 0, 0, .null, []) := rfl
theorem iGraph_isList_0 : ai_find (ai_tab mGraph_isList) 0 = some (.aload_n 0, 1, 0, 0, 0, .null, []) := rfl
theorem iGraph_isList_1 : ai_find (ai_tab mGraph_isList) 1 = some (.iload_n 1, 2, 1, 0, 0, .null, []) := rfl
theorem iGraph_isList_2 : ai_find (ai_tab mGraph_isList) 2 = some (.invokevirtual 30, 5, 79, 2, 1, .ref 4, []) := rfl
theorem iGraph_isList_5 : ai_find (ai_tab mGraph_isList) 5 = some (.iconst 1, 6, 0, 0, 0, .int (nI 1), []) := rfl
theorem iGraph_isList_6 : ai_find (ai_tab mGraph_isList) 6 = some (.if_icmp .ne 7, 9, 13, 0, 0, .null, []) := rfl
theorem iGraph_isList_9 : ai_find (ai_tab mGraph_isList) 9 = some (.iconst 1, 10, 0, 0, 0, .int (nI 1), []) := rfl
theorem iGraph_isList_10 : ai_find (ai_tab mGraph_isList) 10 = some (.goto 4, 13, 14, 0, 0, .null, []) := rfl
theorem iGraph_isList_13 : ai_find (ai_tab mGraph_isList) 13 = some (.iconst 0, 14, 0, 0, 0, .int (nI 0), []) := rfl
theorem iGraph_isList_14 : ai_find (ai_tab mGraph_isList) 14 = some (.ireturn, 15, 1, 0, 0, .null, []) := rfl
theorem iGraph_item_0 : ai_find (ai_tab mGraph_item) 0 = some (.aload_n 0, 1, 0, 0, 0, .null, []) := rfl
theorem iGraph_item_1 : ai_find (ai_tab mGraph_item) 1 = some (.iload_n 1, 2, 1, 0, 0, .null, []) := rfl
theorem iGraph_item_2 : ai_find (ai_tab mGraph_item) 2 = some (.iload_n 2, 3, 2, 0, 0, .null, []) := rfl
theorem iGraph_item_3 : ai_find (ai_tab mGraph_item) 3 = some (.invokevirtual 34, 6, 81, 3, 1, .ref 4, []) := rfl
theorem iGraph_item_6 : ai_find (ai_tab mGraph_item) 6 = some (.ifCond .eq 17, 9, 23, 0, 0, .null, []) := rfl
theorem iGraph_item_9 : ai_find (ai_tab mGraph_item) 9 = some (.aload_n 0, 10, 0, 0, 0, .null, []) := rfl
theorem iGraph_item_10 : ai_find (ai_tab mGraph_item) 10 = some (.getfield 21, 13, 4, 3, 0, .null, []) := rfl
theorem iGraph_item_13 : ai_find (ai_tab mGraph_item) 13 = some (.iload_n 1, 14, 1, 0, 0, .null, []) := rfl
theorem iGraph_item_14 : ai_find (ai_tab mGraph_item) 14 = some (.bipush 6, 16, 0, 0, 0, .int (nI 6), []) := rfl
theorem iGraph_item_16 : ai_find (ai_tab mGraph_item) 16 = some (.imul, 17, 0, 0, 0, .null, []) := rfl
theorem iGraph_item_17 : ai_find (ai_tab mGraph_item) 17 = some (.iload_n 2, 18, 2, 0, 0, .null, []) := rfl
theorem iGraph_item_18 : ai_find (ai_tab mGraph_item) 18 = some (.iadd, 19, 0, 0, 0, .null, []) := rfl
theorem iGraph_item_19 : ai_find (ai_tab mGraph_item) 19 = some (.iaload, 20, 0, 0, 0, .null, []) := rfl
theorem iGraph_item_20 : ai_find (ai_tab mGraph_item) 20 = some (.goto 4, 23, 24, 0, 0, .null, []) := rfl
theorem iGraph_item_23 : ai_find (ai_tab mGraph_item) 23 = some (.iconst 0, 24, 0, 0, 0, .int (nI 0), []) := rfl
theorem iGraph_item_24 : ai_find (ai_tab mGraph_item) 24 = some (.ireturn, 25, 0, 0, 0, .null, []) := rfl
theorem iGraph_length_0 : ai_find (ai_tab mGraph_length) 0 = some (.aload_n 0, 1, 0, 0, 0, .null, []) := rfl
theorem iGraph_length_1 : ai_find (ai_tab mGraph_length) 1 = some (.iload_n 1, 2, 1, 0, 0, .null, []) := rfl
theorem iGraph_length_2 : ai_find (ai_tab mGraph_length) 2 = some (.invokevirtual 30, 5, 79, 2, 1, .ref 4, []) := rfl
theorem iGraph_length_5 : ai_find (ai_tab mGraph_length) 5 = some (.iconst 1, 6, 0, 0, 0, .int (nI 1), []) := rfl
theorem iGraph_length_6 : ai_find (ai_tab mGraph_length) 6 = some (.if_icmp .ne 12, 9, 18, 0, 0, .null, []) := rfl
theorem iGraph_length_9 : ai_find (ai_tab mGraph_length) 9 = some (.aload_n 0, 10, 0, 0, 0, .null, []) := rfl
theorem iGraph_length_10 : ai_find (ai_tab mGraph_length) 10 = some (.getfield 15, 13, 4, 1, 0, .null, []) := rfl
theorem iGraph_length_13 : ai_find (ai_tab mGraph_length) 13 = some (.iload_n 1, 14, 1, 0, 0, .null, []) := rfl
theorem iGraph_length_14 : ai_find (ai_tab mGraph_length) 14 = some (.iaload, 15, 0, 0, 0, .null, []) := rfl
theorem iGraph_length_15 : ai_find (ai_tab mGraph_length) 15 = some (.goto 4, 18, 19, 0, 0, .null, []) := rfl
theorem iGraph_length_18 : ai_find (ai_tab mGraph_length) 18 = some (.iconst 0, 19, 0, 0, 0, .int (nI 0), []) := rfl
theorem iGraph_length_19 : ai_find (ai_tab mGraph_length) 19 = some (.ireturn, 20, 0, 0, 0, .null, []) := rfl
theorem iGraph_matches_0 : ai_find (ai_tab mGraph_matches) 0 = some (.aload_n 0, 1, 0, 0, 0, .null, []) := rfl
theorem iGraph_matches_1 : ai_find (ai_tab mGraph_matches) 1 = some (.getfield 9, 4, 4, 0, 0, .null, []) := rfl
theorem iGraph_matches_4 : ai_find (ai_tab mGraph_matches) 4 = some (.aload_n 1, 5, 1, 0, 0, .null, []) := rfl
theorem iGraph_matches_5 : ai_find (ai_tab mGraph_matches) 5 = some (.getfield 9, 8, 4, 0, 0, .null, []) := rfl
theorem iGraph_matches_8 : ai_find (ai_tab mGraph_matches) 8 = some (.invokestatic 54, 11, 90, 2, 0, .null, []) := rfl
theorem iGraph_matches_11 : ai_find (ai_tab mGraph_matches) 11 = some (.ifCond .eq 49, 14, 60, 0, 0, .null, []) := rfl
theorem iGraph_matches_14 : ai_find (ai_tab mGraph_matches) 14 = some (.aload_n 0, 15, 0, 0, 0, .null, []) := rfl
theorem iGraph_matches_15 : ai_find (ai_tab mGraph_matches) 15 = some (.getfield 15, 18, 4, 1, 0, .null, []) := rfl
theorem iGraph_matches_18 : ai_find (ai_tab mGraph_matches) 18 = some (.aload_n 1, 19, 1, 0, 0, .null, []) := rfl
theorem iGraph_matches_19 : ai_find (ai_tab mGraph_matches) 19 = some (.getfield 15, 22, 4, 1, 0, .null, []) := rfl
theorem iGraph_matches_22 : ai_find (ai_tab mGraph_matches) 22 = some (.invokestatic 54, 25, 90, 2, 0, .null, []) := rfl
theorem iGraph_matches_25 : ai_find (ai_tab mGraph_matches) 25 = some (.ifCond .eq 35, 28, 60, 0, 0, .null, []) := rfl
theorem iGraph_matches_28 : ai_find (ai_tab mGraph_matches) 28 = some (.aload_n 0, 29, 0, 0, 0, .null, []) := rfl
theorem iGraph_matches_29 : ai_find (ai_tab mGraph_matches) 29 = some (.getfield 18, 32, 4, 2, 0, .null, []) := rfl
theorem iGraph_matches_32 : ai_find (ai_tab mGraph_matches) 32 = some (.aload_n 1, 33, 1, 0, 0, .null, []) := rfl
theorem iGraph_matches_33 : ai_find (ai_tab mGraph_matches) 33 = some (.getfield 18, 36, 4, 2, 0, .null, []) := rfl
theorem iGraph_matches_36 : ai_find (ai_tab mGraph_matches) 36 = some (.invokestatic 54, 39, 90, 2, 0, .null, []) := rfl
theorem iGraph_matches_39 : ai_find (ai_tab mGraph_matches) 39 = some (.ifCond .eq 21, 42, 60, 0, 0, .null, []) := rfl
theorem iGraph_matches_42 : ai_find (ai_tab mGraph_matches) 42 = some (.aload_n 0, 43, 0, 0, 0, .null, []) := rfl
theorem iGraph_matches_43 : ai_find (ai_tab mGraph_matches) 43 = some (.getfield 21, 46, 4, 3, 0, .null, []) := rfl
theorem iGraph_matches_46 : ai_find (ai_tab mGraph_matches) 46 = some (.aload_n 1, 47, 1, 0, 0, .null, []) := rfl
theorem iGraph_matches_47 : ai_find (ai_tab mGraph_matches) 47 = some (.getfield 21, 50, 4, 3, 0, .null, []) := rfl
theorem iGraph_matches_50 : ai_find (ai_tab mGraph_matches) 50 = some (.invokestatic 54, 53, 90, 2, 0, .null, []) := rfl
theorem iGraph_matches_53 : ai_find (ai_tab mGraph_matches) 53 = some (.ifCond .eq 7, 56, 60, 0, 0, .null, []) := rfl
theorem iGraph_matches_56 : ai_find (ai_tab mGraph_matches) 56 = some (.iconst 1, 57, 0, 0, 0, .int (nI 1), []) := rfl
theorem iGraph_matches_57 : ai_find (ai_tab mGraph_matches) 57 = some (.goto 4, 60, 61, 0, 0, .null, []) := rfl
theorem iGraph_matches_60 : ai_find (ai_tab mGraph_matches) 60 = some (.iconst 0, 61, 0, 0, 0, .int (nI 0), []) := rfl
theorem iGraph_matches_61 : ai_find (ai_tab mGraph_matches) 61 = some (.ireturn, 62, 1, 0, 0, .null, []) := rfl
theorem iGraph_openItem_0 : ai_find (ai_tab mGraph_openItem) 0 = some (.iload_n 1, 1, 1, 0, 0, .null, []) := rfl
theorem iGraph_openItem_1 : ai_find (ai_tab mGraph_openItem) 1 = some (.bipush 6, 3, 0, 0, 0, .int (nI 6), []) := rfl
theorem iGraph_openItem_3 : ai_find (ai_tab mGraph_openItem) 3 = some (.imul, 4, 0, 0, 0, .null, []) := rfl
theorem iGraph_openItem_4 : ai_find (ai_tab mGraph_openItem) 4 = some (.istore 4, 6, 4, 0, 0, .null, []) := rfl
theorem iGraph_openItem_6 : ai_find (ai_tab mGraph_openItem) 6 = some (.aload_n 0, 7, 0, 0, 0, .null, []) := rfl
theorem iGraph_openItem_7 : ai_find (ai_tab mGraph_openItem) 7 = some (.getfield 15, 10, 4, 1, 0, .null, []) := rfl
theorem iGraph_openItem_10 : ai_find (ai_tab mGraph_openItem) 10 = some (.iload_n 1, 11, 1, 0, 0, .null, []) := rfl
theorem iGraph_openItem_11 : ai_find (ai_tab mGraph_openItem) 11 = some (.iaload, 12, 0, 0, 0, .null, []) := rfl
theorem iGraph_openItem_12 : ai_find (ai_tab mGraph_openItem) 12 = some (.istore 5, 14, 5, 0, 0, .null, []) := rfl
theorem iGraph_openItem_14 : ai_find (ai_tab mGraph_openItem) 14 = some (.iload 5, 16, 5, 0, 0, .null, []) := rfl
theorem iGraph_openItem_16 : ai_find (ai_tab mGraph_openItem) 16 = some (.iload_n 2, 17, 2, 0, 0, .null, []) := rfl
theorem iGraph_openItem_17 : ai_find (ai_tab mGraph_openItem) 17 = some (.if_icmp .le 31, 20, 48, 0, 0, .null, []) := rfl
theorem iGraph_openItem_20 : ai_find (ai_tab mGraph_openItem) 20 = some (.aload_n 0, 21, 0, 0, 0, .null, []) := rfl
theorem iGraph_openItem_21 : ai_find (ai_tab mGraph_openItem) 21 = some (.getfield 21, 24, 4, 3, 0, .null, []) := rfl
theorem iGraph_openItem_24 : ai_find (ai_tab mGraph_openItem) 24 = some (.iload 4, 26, 4, 0, 0, .null, []) := rfl
theorem iGraph_openItem_26 : ai_find (ai_tab mGraph_openItem) 26 = some (.iload 5, 28, 5, 0, 0, .null, []) := rfl
theorem iGraph_openItem_28 : ai_find (ai_tab mGraph_openItem) 28 = some (.iadd, 29, 0, 0, 0, .null, []) := rfl
theorem iGraph_openItem_29 : ai_find (ai_tab mGraph_openItem) 29 = some (.aload_n 0, 30, 0, 0, 0, .null, []) := rfl
theorem iGraph_openItem_30 : ai_find (ai_tab mGraph_openItem) 30 = some (.getfield 21, 33, 4, 3, 0, .null, []) := rfl
theorem iGraph_openItem_33 : ai_find (ai_tab mGraph_openItem) 33 = some (.iload 4, 35, 4, 0, 0, .null, []) := rfl
theorem iGraph_openItem_35 : ai_find (ai_tab mGraph_openItem) 35 = some (.iload 5, 37, 5, 0, 0, .null, []) := rfl
theorem iGraph_openItem_37 : ai_find (ai_tab mGraph_openItem) 37 = some (.iadd, 38, 0, 0, 0, .null, []) := rfl
theorem iGraph_openItem_38 : ai_find (ai_tab mGraph_openItem) 38 = some (.iconst 1, 39, 0, 0, 0, .int (nI 1), []) := rfl
theorem iGraph_openItem_39 : ai_find (ai_tab mGraph_openItem) 39 = some (.isub, 40, 0, 0, 0, .null, []) := rfl
theorem iGraph_openItem_40 : ai_find (ai_tab mGraph_openItem) 40 = some (.iaload, 41, 0, 0, 0, .null, []) := rfl
theorem iGraph_openItem_41 : ai_find (ai_tab mGraph_openItem) 41 = some (.iastore, 42, 0, 0, 0, .null, []) := rfl
theorem iGraph_openItem_42 : ai_find (ai_tab mGraph_openItem) 42 = some (.iinc 5 (-1), 45, 5, 0, 0, .int (-1), []) := rfl
theorem iGraph_openItem_45 : ai_find (ai_tab mGraph_openItem) 45 = some (.goto (-31), 48, 14, 0, 0, .null, []) := rfl
theorem iGraph_openItem_48 : ai_find (ai_tab mGraph_openItem) 48 = some (.aload_n 0, 49, 0, 0, 0, .null, []) := rfl
theorem iGraph_openItem_49 : ai_find (ai_tab mGraph_openItem) 49 = some (.getfield 21, 52, 4, 3, 0, .null, []) := rfl
theorem iGraph_openItem_52 : ai_find (ai_tab mGraph_openItem) 52 = some (.iload 4, 54, 4, 0, 0, .null, []) := rfl
theorem iGraph_openItem_54 : ai_find (ai_tab mGraph_openItem) 54 = some (.iload_n 2, 55, 2, 0, 0, .null, []) := rfl
theorem iGraph_openItem_55 : ai_find (ai_tab mGraph_openItem) 55 = some (.iadd, 56, 0, 0, 0, .null, []) := rfl
theorem iGraph_openItem_56 : ai_find (ai_tab mGraph_openItem) 56 = some (.iload_n 3, 57, 3, 0, 0, .null, []) := rfl
theorem iGraph_openItem_57 : ai_find (ai_tab mGraph_openItem) 57 = some (.iastore, 58, 0, 0, 0, .null, []) := rfl
theorem iGraph_openItem_58 : ai_find (ai_tab mGraph_openItem) 58 = some (.aload_n 0, 59, 0, 0, 0, .null, []) := rfl
theorem iGraph_openItem_59 : ai_find (ai_tab mGraph_openItem) 59 = some (.getfield 15, 62, 4, 1, 0, .null, []) := rfl
theorem iGraph_openItem_62 : ai_find (ai_tab mGraph_openItem) 62 = some (.iload_n 1, 63, 1, 0, 0, .null, []) := rfl
theorem iGraph_openItem_63 : ai_find (ai_tab mGraph_openItem) 63 = some (.dup2, 64, 0, 0, 0, .null, []) := rfl
theorem iGraph_openItem_64 : ai_find (ai_tab mGraph_openItem) 64 = some (.iaload, 65, 0, 0, 0, .null, []) := rfl
theorem iGraph_openItem_65 : ai_find (ai_tab mGraph_openItem) 65 = some (.iconst 1, 66, 0, 0, 0, .int (nI 1), []) := rfl
theorem iGraph_openItem_66 : ai_find (ai_tab mGraph_openItem) 66 = some (.iadd, 67, 0, 0, 0, .null, []) := rfl
theorem iGraph_openItem_67 : ai_find (ai_tab mGraph_openItem) 67 = some (.iastore, 68, 0, 0, 0, .null, []) := rfl
theorem iGraph_openItem_68 : ai_find (ai_tab mGraph_openItem) 68 = some (.return_, 69, 0, 0, 0, .null, []) := rfl
theorem iGraph_reached_0 : ai_find (ai_tab mGraph_reached) 0 = some (.iconst 1, 1, 0, 0, 0, .int (nI 1), []) := rfl
theorem iGraph_reached_1 : ai_find (ai_tab mGraph_reached) 1 = some (.istore_n 1, 2, 1, 0, 0, .null, []) := rfl
theorem iGraph_reached_2 : ai_find (ai_tab mGraph_reached) 2 = some (.iconst 1, 3, 0, 0, 0, .int (nI 1), []) := rfl
theorem iGraph_reached_3 : ai_find (ai_tab mGraph_reached) 3 = some (.istore_n 2, 4, 2, 0, 0, .null, []) := rfl
theorem iGraph_reached_4 : ai_find (ai_tab mGraph_reached) 4 = some (.iload_n 2, 5, 2, 0, 0, .null, []) := rfl
theorem iGraph_reached_5 : ai_find (ai_tab mGraph_reached) 5 = some (.bipush 16, 7, 0, 0, 0, .int (nI 16), []) := rfl
theorem iGraph_reached_7 : ai_find (ai_tab mGraph_reached) 7 = some (.if_icmp .ge 17, 10, 24, 0, 0, .null, []) := rfl
theorem iGraph_reached_10 : ai_find (ai_tab mGraph_reached) 10 = some (.iload_n 1, 11, 1, 0, 0, .null, []) := rfl
theorem iGraph_reached_11 : ai_find (ai_tab mGraph_reached) 11 = some (.aload_n 0, 12, 0, 0, 0, .null, []) := rfl
theorem iGraph_reached_12 : ai_find (ai_tab mGraph_reached) 12 = some (.iload_n 1, 13, 1, 0, 0, .null, []) := rfl
theorem iGraph_reached_13 : ai_find (ai_tab mGraph_reached) 13 = some (.invokevirtual 62, 16, 89, 2, 1, .ref 4, []) := rfl
theorem iGraph_reached_16 : ai_find (ai_tab mGraph_reached) 16 = some (.ior, 17, 0, 0, 0, .null, []) := rfl
theorem iGraph_reached_17 : ai_find (ai_tab mGraph_reached) 17 = some (.istore_n 1, 18, 1, 0, 0, .null, []) := rfl
theorem iGraph_reached_18 : ai_find (ai_tab mGraph_reached) 18 = some (.iinc 2 1, 21, 2, 0, 0, .int (nI 1), []) := rfl
theorem iGraph_reached_21 : ai_find (ai_tab mGraph_reached) 21 = some (.goto (-17), 24, 4, 0, 0, .null, []) := rfl
theorem iGraph_reached_24 : ai_find (ai_tab mGraph_reached) 24 = some (.iload_n 1, 25, 1, 0, 0, .null, []) := rfl
theorem iGraph_reached_25 : ai_find (ai_tab mGraph_reached) 25 = some (.ireturn, 26, 0, 0, 0, .null, []) := rfl
theorem iGraph_referredFrom_0 : ai_find (ai_tab mGraph_referredFrom) 0 = some (.iconst 0, 1, 0, 0, 0, .int (nI 0), []) := rfl
theorem iGraph_referredFrom_1 : ai_find (ai_tab mGraph_referredFrom) 1 = some (.istore_n 2, 2, 2, 0, 0, .null, []) := rfl
theorem iGraph_referredFrom_2 : ai_find (ai_tab mGraph_referredFrom) 2 = some (.iconst 0, 3, 0, 0, 0, .int (nI 0), []) := rfl
theorem iGraph_referredFrom_3 : ai_find (ai_tab mGraph_referredFrom) 3 = some (.istore_n 3, 4, 3, 0, 0, .null, []) := rfl
theorem iGraph_referredFrom_4 : ai_find (ai_tab mGraph_referredFrom) 4 = some (.iload_n 3, 5, 3, 0, 0, .null, []) := rfl
theorem iGraph_referredFrom_5 : ai_find (ai_tab mGraph_referredFrom) 5 = some (.bipush 16, 7, 0, 0, 0, .int (nI 16), []) := rfl
theorem iGraph_referredFrom_7 : ai_find (ai_tab mGraph_referredFrom) 7 = some (.if_icmp .ge 65, 10, 72, 0, 0, .null, []) := rfl
theorem iGraph_referredFrom_10 : ai_find (ai_tab mGraph_referredFrom) 10 = some (.iconst 0, 11, 0, 0, 0, .int (nI 0), []) := rfl
theorem iGraph_referredFrom_11 : ai_find (ai_tab mGraph_referredFrom) 11 = some (.istore 4, 13, 4, 0, 0, .null, []) := rfl
theorem iGraph_referredFrom_13 : ai_find (ai_tab mGraph_referredFrom) 13 = some (.iload 4, 15, 4, 0, 0, .null, []) := rfl
theorem iGraph_referredFrom_15 : ai_find (ai_tab mGraph_referredFrom) 15 = some (.iconst 3, 16, 0, 0, 0, .int (nI 3), []) := rfl
theorem iGraph_referredFrom_16 : ai_find (ai_tab mGraph_referredFrom) 16 = some (.if_icmp .ge 50, 19, 66, 0, 0, .null, []) := rfl
theorem iGraph_referredFrom_19 : ai_find (ai_tab mGraph_referredFrom) 19 = some (.iload_n 1, 20, 1, 0, 0, .null, []) := rfl
theorem iGraph_referredFrom_20 : ai_find (ai_tab mGraph_referredFrom) 20 = some (.iload_n 3, 21, 3, 0, 0, .null, []) := rfl
theorem iGraph_referredFrom_21 : ai_find (ai_tab mGraph_referredFrom) 21 = some (.ishr, 22, 0, 0, 0, .null, []) := rfl
theorem iGraph_referredFrom_22 : ai_find (ai_tab mGraph_referredFrom) 22 = some (.iconst 1, 23, 0, 0, 0, .int (nI 1), []) := rfl
theorem iGraph_referredFrom_23 : ai_find (ai_tab mGraph_referredFrom) 23 = some (.iand, 24, 0, 0, 0, .null, []) := rfl
theorem iGraph_referredFrom_24 : ai_find (ai_tab mGraph_referredFrom) 24 = some (.iconst 1, 25, 0, 0, 0, .int (nI 1), []) := rfl
theorem iGraph_referredFrom_25 : ai_find (ai_tab mGraph_referredFrom) 25 = some (.if_icmp .ne 35, 28, 60, 0, 0, .null, []) := rfl
theorem iGraph_referredFrom_28 : ai_find (ai_tab mGraph_referredFrom) 28 = some (.aload_n 0, 29, 0, 0, 0, .null, []) := rfl
theorem iGraph_referredFrom_29 : ai_find (ai_tab mGraph_referredFrom) 29 = some (.getfield 18, 32, 4, 2, 0, .null, []) := rfl
theorem iGraph_referredFrom_32 : ai_find (ai_tab mGraph_referredFrom) 32 = some (.iload_n 3, 33, 3, 0, 0, .null, []) := rfl
theorem iGraph_referredFrom_33 : ai_find (ai_tab mGraph_referredFrom) 33 = some (.iconst 3, 34, 0, 0, 0, .int (nI 3), []) := rfl
theorem iGraph_referredFrom_34 : ai_find (ai_tab mGraph_referredFrom) 34 = some (.imul, 35, 0, 0, 0, .null, []) := rfl
theorem iGraph_referredFrom_35 : ai_find (ai_tab mGraph_referredFrom) 35 = some (.iload 4, 37, 4, 0, 0, .null, []) := rfl
theorem iGraph_referredFrom_37 : ai_find (ai_tab mGraph_referredFrom) 37 = some (.iadd, 38, 0, 0, 0, .null, []) := rfl
theorem iGraph_referredFrom_38 : ai_find (ai_tab mGraph_referredFrom) 38 = some (.iaload, 39, 0, 0, 0, .null, []) := rfl
theorem iGraph_referredFrom_39 : ai_find (ai_tab mGraph_referredFrom) 39 = some (.iconst 2, 40, 0, 0, 0, .int (nI 2), []) := rfl
theorem iGraph_referredFrom_40 : ai_find (ai_tab mGraph_referredFrom) 40 = some (.if_icmp .ne 20, 43, 60, 0, 0, .null, []) := rfl
theorem iGraph_referredFrom_43 : ai_find (ai_tab mGraph_referredFrom) 43 = some (.iload_n 2, 44, 2, 0, 0, .null, []) := rfl
theorem iGraph_referredFrom_44 : ai_find (ai_tab mGraph_referredFrom) 44 = some (.iconst 1, 45, 0, 0, 0, .int (nI 1), []) := rfl
theorem iGraph_referredFrom_45 : ai_find (ai_tab mGraph_referredFrom) 45 = some (.aload_n 0, 46, 0, 0, 0, .null, []) := rfl
theorem iGraph_referredFrom_46 : ai_find (ai_tab mGraph_referredFrom) 46 = some (.getfield 21, 49, 4, 3, 0, .null, []) := rfl
theorem iGraph_referredFrom_49 : ai_find (ai_tab mGraph_referredFrom) 49 = some (.iload_n 3, 50, 3, 0, 0, .null, []) := rfl
theorem iGraph_referredFrom_50 : ai_find (ai_tab mGraph_referredFrom) 50 = some (.bipush 6, 52, 0, 0, 0, .int (nI 6), []) := rfl
theorem iGraph_referredFrom_52 : ai_find (ai_tab mGraph_referredFrom) 52 = some (.imul, 53, 0, 0, 0, .null, []) := rfl
theorem iGraph_referredFrom_53 : ai_find (ai_tab mGraph_referredFrom) 53 = some (.iload 4, 55, 4, 0, 0, .null, []) := rfl
theorem iGraph_referredFrom_55 : ai_find (ai_tab mGraph_referredFrom) 55 = some (.iadd, 56, 0, 0, 0, .null, []) := rfl
theorem iGraph_referredFrom_56 : ai_find (ai_tab mGraph_referredFrom) 56 = some (.iaload, 57, 0, 0, 0, .null, []) := rfl
theorem iGraph_referredFrom_57 : ai_find (ai_tab mGraph_referredFrom) 57 = some (.ishl, 58, 0, 0, 0, .null, []) := rfl
theorem iGraph_referredFrom_58 : ai_find (ai_tab mGraph_referredFrom) 58 = some (.ior, 59, 0, 0, 0, .null, []) := rfl
theorem iGraph_referredFrom_59 : ai_find (ai_tab mGraph_referredFrom) 59 = some (.istore_n 2, 60, 2, 0, 0, .null, []) := rfl
theorem iGraph_referredFrom_60 : ai_find (ai_tab mGraph_referredFrom) 60 = some (.iinc 4 1, 63, 4, 0, 0, .int (nI 1), []) := rfl
theorem iGraph_referredFrom_63 : ai_find (ai_tab mGraph_referredFrom) 63 = some (.goto (-50), 66, 13, 0, 0, .null, []) := rfl
theorem iGraph_referredFrom_66 : ai_find (ai_tab mGraph_referredFrom) 66 = some (.iinc 3 1, 69, 3, 0, 0, .int (nI 1), []) := rfl
theorem iGraph_referredFrom_69 : ai_find (ai_tab mGraph_referredFrom) 69 = some (.goto (-65), 72, 4, 0, 0, .null, []) := rfl
theorem iGraph_referredFrom_72 : ai_find (ai_tab mGraph_referredFrom) 72 = some (.iload_n 2, 73, 2, 0, 0, .null, []) := rfl
theorem iGraph_referredFrom_73 : ai_find (ai_tab mGraph_referredFrom) 73 = some (.ireturn, 74, 0, 0, 0, .null, []) := rfl
theorem iGraph_rowsMatch_0 : ai_find (ai_tab mGraph_rowsMatch) 0 = some (.iconst 0, 1, 0, 0, 0, .int (nI 0), []) := rfl
theorem iGraph_rowsMatch_1 : ai_find (ai_tab mGraph_rowsMatch) 1 = some (.istore_n 2, 2, 2, 0, 0, .null, []) := rfl
theorem iGraph_rowsMatch_2 : ai_find (ai_tab mGraph_rowsMatch) 2 = some (.iload_n 2, 3, 2, 0, 0, .null, []) := rfl
theorem iGraph_rowsMatch_3 : ai_find (ai_tab mGraph_rowsMatch) 3 = some (.aload_n 0, 4, 0, 0, 0, .null, []) := rfl
theorem iGraph_rowsMatch_4 : ai_find (ai_tab mGraph_rowsMatch) 4 = some (.arraylength, 5, 0, 0, 0, .null, []) := rfl
theorem iGraph_rowsMatch_5 : ai_find (ai_tab mGraph_rowsMatch) 5 = some (.if_icmp .ge 26, 8, 31, 0, 0, .null, []) := rfl
theorem iGraph_rowsMatch_8 : ai_find (ai_tab mGraph_rowsMatch) 8 = some (.iload_n 2, 9, 2, 0, 0, .null, []) := rfl
theorem iGraph_rowsMatch_9 : ai_find (ai_tab mGraph_rowsMatch) 9 = some (.aload_n 1, 10, 1, 0, 0, .null, []) := rfl
theorem iGraph_rowsMatch_10 : ai_find (ai_tab mGraph_rowsMatch) 10 = some (.arraylength, 11, 0, 0, 0, .null, []) := rfl
theorem iGraph_rowsMatch_11 : ai_find (ai_tab mGraph_rowsMatch) 11 = some (.if_icmp .ge 20, 14, 31, 0, 0, .null, []) := rfl
theorem iGraph_rowsMatch_14 : ai_find (ai_tab mGraph_rowsMatch) 14 = some (.aload_n 0, 15, 0, 0, 0, .null, []) := rfl
theorem iGraph_rowsMatch_15 : ai_find (ai_tab mGraph_rowsMatch) 15 = some (.iload_n 2, 16, 2, 0, 0, .null, []) := rfl
theorem iGraph_rowsMatch_16 : ai_find (ai_tab mGraph_rowsMatch) 16 = some (.iaload, 17, 0, 0, 0, .null, []) := rfl
theorem iGraph_rowsMatch_17 : ai_find (ai_tab mGraph_rowsMatch) 17 = some (.aload_n 1, 18, 1, 0, 0, .null, []) := rfl
theorem iGraph_rowsMatch_18 : ai_find (ai_tab mGraph_rowsMatch) 18 = some (.iload_n 2, 19, 2, 0, 0, .null, []) := rfl
theorem iGraph_rowsMatch_19 : ai_find (ai_tab mGraph_rowsMatch) 19 = some (.iaload, 20, 0, 0, 0, .null, []) := rfl
theorem iGraph_rowsMatch_20 : ai_find (ai_tab mGraph_rowsMatch) 20 = some (.if_icmp .eq 5, 23, 25, 0, 0, .null, []) := rfl
theorem iGraph_rowsMatch_23 : ai_find (ai_tab mGraph_rowsMatch) 23 = some (.iconst 0, 24, 0, 0, 0, .int (nI 0), []) := rfl
theorem iGraph_rowsMatch_24 : ai_find (ai_tab mGraph_rowsMatch) 24 = some (.ireturn, 25, 1, 0, 0, .null, []) := rfl
theorem iGraph_rowsMatch_25 : ai_find (ai_tab mGraph_rowsMatch) 25 = some (.iinc 2 1, 28, 2, 0, 0, .int (nI 1), []) := rfl
theorem iGraph_rowsMatch_28 : ai_find (ai_tab mGraph_rowsMatch) 28 = some (.goto (-26), 31, 2, 0, 0, .null, []) := rfl
theorem iGraph_rowsMatch_31 : ai_find (ai_tab mGraph_rowsMatch) 31 = some (.aload_n 0, 32, 0, 0, 0, .null, []) := rfl
theorem iGraph_rowsMatch_32 : ai_find (ai_tab mGraph_rowsMatch) 32 = some (.arraylength, 33, 0, 0, 0, .null, []) := rfl
theorem iGraph_rowsMatch_33 : ai_find (ai_tab mGraph_rowsMatch) 33 = some (.aload_n 1, 34, 1, 0, 0, .null, []) := rfl
theorem iGraph_rowsMatch_34 : ai_find (ai_tab mGraph_rowsMatch) 34 = some (.arraylength, 35, 0, 0, 0, .null, []) := rfl
theorem iGraph_rowsMatch_35 : ai_find (ai_tab mGraph_rowsMatch) 35 = some (.if_icmp .ne 7, 38, 42, 0, 0, .null, []) := rfl
theorem iGraph_rowsMatch_38 : ai_find (ai_tab mGraph_rowsMatch) 38 = some (.iconst 1, 39, 0, 0, 0, .int (nI 1), []) := rfl
theorem iGraph_rowsMatch_39 : ai_find (ai_tab mGraph_rowsMatch) 39 = some (.goto 4, 42, 43, 0, 0, .null, []) := rfl
theorem iGraph_rowsMatch_42 : ai_find (ai_tab mGraph_rowsMatch) 42 = some (.iconst 0, 43, 0, 0, 0, .int (nI 0), []) := rfl
theorem iGraph_rowsMatch_43 : ai_find (ai_tab mGraph_rowsMatch) 43 = some (.ireturn, 44, 1, 0, 0, .null, []) := rfl
theorem iGraph_tag_0 : ai_find (ai_tab mGraph_tag) 0 = some (.aload_n 0, 1, 0, 0, 0, .null, []) := rfl
theorem iGraph_tag_1 : ai_find (ai_tab mGraph_tag) 1 = some (.iload_n 1, 2, 1, 0, 0, .null, []) := rfl
theorem iGraph_tag_2 : ai_find (ai_tab mGraph_tag) 2 = some (.iload_n 2, 3, 2, 0, 0, .null, []) := rfl
theorem iGraph_tag_3 : ai_find (ai_tab mGraph_tag) 3 = some (.invokevirtual 38, 6, 82, 3, 1, .ref 4, []) := rfl
theorem iGraph_tag_6 : ai_find (ai_tab mGraph_tag) 6 = some (.ifCond .eq 16, 9, 22, 0, 0, .null, []) := rfl
theorem iGraph_tag_9 : ai_find (ai_tab mGraph_tag) 9 = some (.aload_n 0, 10, 0, 0, 0, .null, []) := rfl
theorem iGraph_tag_10 : ai_find (ai_tab mGraph_tag) 10 = some (.getfield 18, 13, 4, 2, 0, .null, []) := rfl
theorem iGraph_tag_13 : ai_find (ai_tab mGraph_tag) 13 = some (.iload_n 1, 14, 1, 0, 0, .null, []) := rfl
theorem iGraph_tag_14 : ai_find (ai_tab mGraph_tag) 14 = some (.iconst 3, 15, 0, 0, 0, .int (nI 3), []) := rfl
theorem iGraph_tag_15 : ai_find (ai_tab mGraph_tag) 15 = some (.imul, 16, 0, 0, 0, .null, []) := rfl
