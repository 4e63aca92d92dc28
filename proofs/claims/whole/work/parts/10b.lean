theorem iGraph_tag_16 : ai_find (ai_tab mGraph_tag) 16 = some (.iload_n 2, 17, 2, 0, 0, .null, []) := rfl
theorem iGraph_tag_17 : ai_find (ai_tab mGraph_tag) 17 = some (.iadd, 18, 0, 0, 0, .null, []) := rfl
theorem iGraph_tag_18 : ai_find (ai_tab mGraph_tag) 18 = some (.iaload, 19, 0, 0, 0, .null, []) := rfl
theorem iGraph_tag_19 : ai_find (ai_tab mGraph_tag) 19 = some (.goto 4, 22, 23, 0, 0, .null, []) := rfl
theorem iGraph_tag_22 : ai_find (ai_tab mGraph_tag) 22 = some (.iconst 0, 23, 0, 0, 0, .int (nI 0), []) := rfl
theorem iGraph_tag_23 : ai_find (ai_tab mGraph_tag) 23 = some (.ireturn, 24, 0, 0, 0, .null, []) := rfl
theorem iMerger_init_0 : ai_find (ai_tab mMerger_init) 0 = some (.aload_n 0, 1, 0, 0, 0, .null, []) := rfl
theorem iMerger_init_1 : ai_find (ai_tab mMerger_init) 1 = some (.invokespecial 3, 4, 0, 1, 3, .null, []) := rfl
theorem iMerger_init_4 : ai_find (ai_tab mMerger_init) 4 = some (.aload_n 0, 5, 0, 0, 0, .null, []) := rfl
theorem iMerger_init_5 : ai_find (ai_tab mMerger_init) 5 = some (.new 9, 8, 1, 0, 0, .null, [(0, 3), (0, 0)]) := rfl
theorem iMerger_init_8 : ai_find (ai_tab mMerger_init) 8 = some (.dup, 9, 0, 0, 0, .null, []) := rfl
theorem iMerger_init_9 : ai_find (ai_tab mMerger_init) 9 = some (.invokespecial 11, 12, 22, 1, 2, .null, []) := rfl
theorem iMerger_init_12 : ai_find (ai_tab mMerger_init) 12 = some (.putfield 12, 15, 5, 0, 3, .null, []) := rfl
theorem iMerger_init_15 : ai_find (ai_tab mMerger_init) 15 = some (.aload_n 0, 16, 0, 0, 0, .null, []) := rfl
theorem iMerger_init_16 : ai_find (ai_tab mMerger_init) 16 = some (.new 9, 19, 1, 0, 0, .null, [(0, 3), (0, 0)]) := rfl
theorem iMerger_init_19 : ai_find (ai_tab mMerger_init) 19 = some (.dup, 20, 0, 0, 0, .null, []) := rfl
theorem iMerger_init_20 : ai_find (ai_tab mMerger_init) 20 = some (.invokespecial 11, 23, 22, 1, 2, .null, []) := rfl
theorem iMerger_init_23 : ai_find (ai_tab mMerger_init) 23 = some (.putfield 18, 26, 5, 1, 3, .null, []) := rfl
theorem iMerger_init_26 : ai_find (ai_tab mMerger_init) 26 = some (.aload_n 0, 27, 0, 0, 0, .null, []) := rfl
theorem iMerger_init_27 : ai_find (ai_tab mMerger_init) 27 = some (.bipush 48, 29, 0, 0, 0, .int (nI 48), []) := rfl
theorem iMerger_init_29 : ai_find (ai_tab mMerger_init) 29 = some (.newarray .int, 31, 0, 0, 0, .null, []) := rfl
theorem iMerger_init_31 : ai_find (ai_tab mMerger_init) 31 = some (.putfield 21, 34, 5, 2, 3, .null, []) := rfl
theorem iMerger_init_34 : ai_find (ai_tab mMerger_init) 34 = some (.return_, 35, 0, 0, 0, .null, []) := rfl
theorem iMerger_clash_0 : ai_find (ai_tab mMerger_clash) 0 = some (.aload_n 0, 1, 0, 0, 0, .null, []) := rfl
theorem iMerger_clash_1 : ai_find (ai_tab mMerger_clash) 1 = some (.getfield 12, 4, 5, 0, 0, .null, []) := rfl
theorem iMerger_clash_4 : ai_find (ai_tab mMerger_clash) 4 = some (.iload_n 1, 5, 1, 0, 0, .null, []) := rfl
theorem iMerger_clash_5 : ai_find (ai_tab mMerger_clash) 5 = some (.invokevirtual 41, 8, 31, 2, 1, .ref 1, []) := rfl
theorem iMerger_clash_8 : ai_find (ai_tab mMerger_clash) 8 = some (.iconst 1, 9, 0, 0, 0, .int (nI 1), []) := rfl
theorem iMerger_clash_9 : ai_find (ai_tab mMerger_clash) 9 = some (.if_icmp .eq 46, 12, 55, 0, 0, .null, []) := rfl
theorem iMerger_clash_12 : ai_find (ai_tab mMerger_clash) 12 = some (.aload_n 0, 13, 0, 0, 0, .null, []) := rfl
theorem iMerger_clash_13 : ai_find (ai_tab mMerger_clash) 13 = some (.getfield 18, 16, 5, 1, 0, .null, []) := rfl
theorem iMerger_clash_16 : ai_find (ai_tab mMerger_clash) 16 = some (.iload_n 2, 17, 2, 0, 0, .null, []) := rfl
theorem iMerger_clash_17 : ai_find (ai_tab mMerger_clash) 17 = some (.aload_n 0, 18, 0, 0, 0, .null, []) := rfl
theorem iMerger_clash_18 : ai_find (ai_tab mMerger_clash) 18 = some (.getfield 12, 21, 5, 0, 0, .null, []) := rfl
theorem iMerger_clash_21 : ai_find (ai_tab mMerger_clash) 21 = some (.iload_n 1, 22, 1, 0, 0, .null, []) := rfl
theorem iMerger_clash_22 : ai_find (ai_tab mMerger_clash) 22 = some (.invokevirtual 41, 25, 31, 2, 1, .ref 1, []) := rfl
theorem iMerger_clash_25 : ai_find (ai_tab mMerger_clash) 25 = some (.aload_n 0, 26, 0, 0, 0, .null, []) := rfl
theorem iMerger_clash_26 : ai_find (ai_tab mMerger_clash) 26 = some (.getfield 12, 29, 5, 0, 0, .null, []) := rfl
theorem iMerger_clash_29 : ai_find (ai_tab mMerger_clash) 29 = some (.iload_n 1, 30, 1, 0, 0, .null, []) := rfl
theorem iMerger_clash_30 : ai_find (ai_tab mMerger_clash) 30 = some (.invokevirtual 37, 33, 43, 2, 1, .ref 1, []) := rfl
theorem iMerger_clash_33 : ai_find (ai_tab mMerger_clash) 33 = some (.invokevirtual 51, 36, 41, 4, 1, .ref 1, []) := rfl
theorem iMerger_clash_36 : ai_find (ai_tab mMerger_clash) 36 = some (.ifCond .eq 19, 39, 55, 0, 0, .null, []) := rfl
theorem iMerger_clash_39 : ai_find (ai_tab mMerger_clash) 39 = some (.aload_n 0, 40, 0, 0, 0, .null, []) := rfl
theorem iMerger_clash_40 : ai_find (ai_tab mMerger_clash) 40 = some (.getfield 12, 43, 5, 0, 0, .null, []) := rfl
theorem iMerger_clash_43 : ai_find (ai_tab mMerger_clash) 43 = some (.iload_n 1, 44, 1, 0, 0, .null, []) := rfl
theorem iMerger_clash_44 : ai_find (ai_tab mMerger_clash) 44 = some (.aload_n 0, 45, 0, 0, 0, .null, []) := rfl
theorem iMerger_clash_45 : ai_find (ai_tab mMerger_clash) 45 = some (.getfield 18, 48, 5, 1, 0, .null, []) := rfl
theorem iMerger_clash_48 : ai_find (ai_tab mMerger_clash) 48 = some (.iload_n 2, 49, 2, 0, 0, .null, []) := rfl
theorem iMerger_clash_49 : ai_find (ai_tab mMerger_clash) 49 = some (.invokevirtual 55, 52, 42, 4, 1, .ref 1, []) := rfl
theorem iMerger_clash_52 : ai_find (ai_tab mMerger_clash) 52 = some (.ifCond .eq 5, 55, 57, 0, 0, .null, []) := rfl
theorem iMerger_clash_55 : ai_find (ai_tab mMerger_clash) 55 = some (.iconst 0, 56, 0, 0, 0, .int (nI 0), []) := rfl
theorem iMerger_clash_56 : ai_find (ai_tab mMerger_clash) 56 = some (.ireturn, 57, 1, 0, 0, .null, []) := rfl
theorem iMerger_clash_57 : ai_find (ai_tab mMerger_clash) 57 = some (.aload_n 0, 58, 0, 0, 0, .null, []) := rfl
theorem iMerger_clash_58 : ai_find (ai_tab mMerger_clash) 58 = some (.getfield 12, 61, 5, 0, 0, .null, []) := rfl
theorem iMerger_clash_61 : ai_find (ai_tab mMerger_clash) 61 = some (.iload_n 1, 62, 1, 0, 0, .null, []) := rfl
theorem iMerger_clash_62 : ai_find (ai_tab mMerger_clash) 62 = some (.invokevirtual 41, 65, 31, 2, 1, .ref 1, []) := rfl
theorem iMerger_clash_65 : ai_find (ai_tab mMerger_clash) 65 = some (.iconst 2, 66, 0, 0, 0, .int (nI 2), []) := rfl
theorem iMerger_clash_66 : ai_find (ai_tab mMerger_clash) 66 = some (.if_icmp .ne 28, 69, 94, 0, 0, .null, []) := rfl
theorem iMerger_clash_69 : ai_find (ai_tab mMerger_clash) 69 = some (.aload_n 0, 70, 0, 0, 0, .null, []) := rfl
theorem iMerger_clash_70 : ai_find (ai_tab mMerger_clash) 70 = some (.getfield 12, 73, 5, 0, 0, .null, []) := rfl
theorem iMerger_clash_73 : ai_find (ai_tab mMerger_clash) 73 = some (.iload_n 1, 74, 1, 0, 0, .null, []) := rfl
theorem iMerger_clash_74 : ai_find (ai_tab mMerger_clash) 74 = some (.invokevirtual 44, 77, 44, 2, 1, .ref 1, []) := rfl
theorem iMerger_clash_77 : ai_find (ai_tab mMerger_clash) 77 = some (.aload_n 0, 78, 0, 0, 0, .null, []) := rfl
theorem iMerger_clash_78 : ai_find (ai_tab mMerger_clash) 78 = some (.getfield 18, 81, 5, 1, 0, .null, []) := rfl
theorem iMerger_clash_81 : ai_find (ai_tab mMerger_clash) 81 = some (.iload_n 2, 82, 2, 0, 0, .null, []) := rfl
theorem iMerger_clash_82 : ai_find (ai_tab mMerger_clash) 82 = some (.invokevirtual 44, 85, 44, 2, 1, .ref 1, []) := rfl
theorem iMerger_clash_85 : ai_find (ai_tab mMerger_clash) 85 = some (.if_icmp .ne 7, 88, 92, 0, 0, .null, []) := rfl
theorem iMerger_clash_88 : ai_find (ai_tab mMerger_clash) 88 = some (.iconst 1, 89, 0, 0, 0, .int (nI 1), []) := rfl
theorem iMerger_clash_89 : ai_find (ai_tab mMerger_clash) 89 = some (.goto 4, 92, 93, 0, 0, .null, []) := rfl
theorem iMerger_clash_92 : ai_find (ai_tab mMerger_clash) 92 = some (.iconst 0, 93, 0, 0, 0, .int (nI 0), []) := rfl
theorem iMerger_clash_93 : ai_find (ai_tab mMerger_clash) 93 = some (.ireturn, 94, 1, 0, 0, .null, []) := rfl
theorem iMerger_clash_94 : ai_find (ai_tab mMerger_clash) 94 = some (.aload_n 0, 95, 0, 0, 0, .null, []) := rfl
theorem iMerger_clash_95 : ai_find (ai_tab mMerger_clash) 95 = some (.getfield 12, 98, 5, 0, 0, .null, []) := rfl
theorem iMerger_clash_98 : ai_find (ai_tab mMerger_clash) 98 = some (.iload_n 1, 99, 1, 0, 0, .null, []) := rfl
theorem iMerger_clash_99 : ai_find (ai_tab mMerger_clash) 99 = some (.invokevirtual 44, 102, 44, 2, 1, .ref 1, []) := rfl
theorem iMerger_clash_102 : ai_find (ai_tab mMerger_clash) 102 = some (.aload_n 0, 103, 0, 0, 0, .null, []) := rfl
theorem iMerger_clash_103 : ai_find (ai_tab mMerger_clash) 103 = some (.getfield 18, 106, 5, 1, 0, .null, []) := rfl
theorem iMerger_clash_106 : ai_find (ai_tab mMerger_clash) 106 = some (.iload_n 2, 107, 2, 0, 0, .null, []) := rfl
theorem iMerger_clash_107 : ai_find (ai_tab mMerger_clash) 107 = some (.invokevirtual 59, 110, 35, 2, 1, .ref 1, []) := rfl
theorem iMerger_clash_110 : ai_find (ai_tab mMerger_clash) 110 = some (.if_icmp .gt 26, 113, 136, 0, 0, .null, []) := rfl
theorem iMerger_clash_113 : ai_find (ai_tab mMerger_clash) 113 = some (.aload_n 0, 114, 0, 0, 0, .null, []) := rfl
theorem iMerger_clash_114 : ai_find (ai_tab mMerger_clash) 114 = some (.getfield 18, 117, 5, 1, 0, .null, []) := rfl
theorem iMerger_clash_117 : ai_find (ai_tab mMerger_clash) 117 = some (.iload_n 2, 118, 2, 0, 0, .null, []) := rfl
theorem iMerger_clash_118 : ai_find (ai_tab mMerger_clash) 118 = some (.invokevirtual 44, 121, 44, 2, 1, .ref 1, []) := rfl
set_option maxRecDepth 20000 in theorem iMerger_clash_121 : ai_find (ai_tab mMerger_clash) 121 = some (.aload_n 0, 122, 0, 0, 0, .null, []) := rfl
set_option maxRecDepth 20000 in theorem iMerger_clash_122 : ai_find (ai_tab mMerger_clash) 122 = some (.getfield 12, 125, 5, 0, 0, .null, []) := rfl
set_option maxRecDepth 20000 in theorem iMerger_clash_125 : ai_find (ai_tab mMerger_clash) 125 = some (.iload_n 1, 126, 1, 0, 0, .null, []) := rfl
set_option maxRecDepth 20000 in theorem iMerger_clash_126 : ai_find (ai_tab mMerger_clash) 126 = some (.invokevirtual 59, 129, 35, 2, 1, .ref 1, []) := rfl
set_option maxRecDepth 20000 in theorem iMerger_clash_129 : ai_find (ai_tab mMerger_clash) 129 = some (.if_icmp .gt 7, 132, 136, 0, 0, .null, []) := rfl
set_option maxRecDepth 20000 in theorem iMerger_clash_132 : ai_find (ai_tab mMerger_clash) 132 = some (.iconst 1, 133, 0, 0, 0, .int (nI 1), []) := rfl
set_option maxRecDepth 20000 in theorem iMerger_clash_133 : ai_find (ai_tab mMerger_clash) 133 = some (.goto 4, 136, 137, 0, 0, .null, []) := rfl
set_option maxRecDepth 20000 in theorem iMerger_clash_136 : ai_find (ai_tab mMerger_clash) 136 = some (.iconst 0, 137, 0, 0, 0, .int (nI 0), []) := rfl
set_option maxRecDepth 20000 in theorem iMerger_clash_137 : ai_find (ai_tab mMerger_clash) 137 = some (.ireturn, 138, 1, 0, 0, .null, []) := rfl
theorem iMerger_conflictAt_0 : ai_find (ai_tab mMerger_conflictAt) 0 = some (.iload_n 1, 1, 1, 0, 0, .null, []) := rfl
theorem iMerger_conflictAt_1 : ai_find (ai_tab mMerger_conflictAt) 1 = some (.ifCond .lt 20, 4, 21, 0, 0, .null, []) := rfl
theorem iMerger_conflictAt_4 : ai_find (ai_tab mMerger_conflictAt) 4 = some (.iload_n 1, 5, 1, 0, 0, .null, []) := rfl
theorem iMerger_conflictAt_5 : ai_find (ai_tab mMerger_conflictAt) 5 = some (.aload_n 0, 6, 0, 0, 0, .null, []) := rfl
theorem iMerger_conflictAt_6 : ai_find (ai_tab mMerger_conflictAt) 6 = some (.getfield 25, 9, 5, 3, 0, .null, []) := rfl
theorem iMerger_conflictAt_9 : ai_find (ai_tab mMerger_conflictAt) 9 = some (.if_icmp .ge 12, 12, 21, 0, 0, .null, []) := rfl
theorem iMerger_conflictAt_12 : ai_find (ai_tab mMerger_conflictAt) 12 = some (.aload_n 0, 13, 0, 0, 0, .null, []) := rfl
theorem iMerger_conflictAt_13 : ai_find (ai_tab mMerger_conflictAt) 13 = some (.getfield 21, 16, 5, 2, 0, .null, []) := rfl
theorem iMerger_conflictAt_16 : ai_find (ai_tab mMerger_conflictAt) 16 = some (.iload_n 1, 17, 1, 0, 0, .null, []) := rfl
theorem iMerger_conflictAt_17 : ai_find (ai_tab mMerger_conflictAt) 17 = some (.iaload, 18, 0, 0, 0, .null, []) := rfl
theorem iMerger_conflictAt_18 : ai_find (ai_tab mMerger_conflictAt) 18 = some (.goto 4, 21, 22, 0, 0, .null, []) := rfl
theorem iMerger_conflictAt_21 : ai_find (ai_tab mMerger_conflictAt) 21 = some (.iconst (-1), 22, 0, 0, 0, .int (-1), []) := rfl
theorem iMerger_conflictAt_22 : ai_find (ai_tab mMerger_conflictAt) 22 = some (.ireturn, 23, 0, 0, 0, .null, []) := rfl
theorem iMerger_conflictCount_0 : ai_find (ai_tab mMerger_conflictCount) 0 = some (.aload_n 0, 1, 0, 0, 0, .null, []) := rfl
theorem iMerger_conflictCount_1 : ai_find (ai_tab mMerger_conflictCount) 1 = some (.getfield 25, 4, 5, 3, 0, .null, []) := rfl
theorem iMerger_conflictCount_4 : ai_find (ai_tab mMerger_conflictCount) 4 = some (.ireturn, 5, 0, 0, 0, .null, []) := rfl
theorem iMerger_findConflicts_0 : ai_find (ai_tab mMerger_findConflicts) 0 = some (.aload_n 0, 1, 0, 0, 0, .null, []) := rfl
theorem iMerger_findConflicts_1 : ai_find (ai_tab mMerger_findConflicts) 1 = some (.iconst 0, 2, 0, 0, 0, .int (nI 0), []) := rfl
theorem iMerger_findConflicts_2 : ai_find (ai_tab mMerger_findConflicts) 2 = some (.putfield 25, 5, 5, 3, 0, .null, []) := rfl
theorem iMerger_findConflicts_5 : ai_find (ai_tab mMerger_findConflicts) 5 = some (.iconst 0, 6, 0, 0, 0, .int (nI 0), []) := rfl
theorem iMerger_findConflicts_6 : ai_find (ai_tab mMerger_findConflicts) 6 = some (.istore_n 1, 7, 1, 0, 0, .null, []) := rfl
theorem iMerger_findConflicts_7 : ai_find (ai_tab mMerger_findConflicts) 7 = some (.iload_n 1, 8, 1, 0, 0, .null, []) := rfl
theorem iMerger_findConflicts_8 : ai_find (ai_tab mMerger_findConflicts) 8 = some (.aload_n 0, 9, 0, 0, 0, .null, []) := rfl
theorem iMerger_findConflicts_9 : ai_find (ai_tab mMerger_findConflicts) 9 = some (.getfield 12, 12, 5, 0, 0, .null, []) := rfl
theorem iMerger_findConflicts_12 : ai_find (ai_tab mMerger_findConflicts) 12 = some (.invokevirtual 29, 15, 46, 1, 1, .ref 1, []) := rfl
theorem iMerger_findConflicts_15 : ai_find (ai_tab mMerger_findConflicts) 15 = some (.if_icmp .ge 77, 18, 92, 0, 0, .null, []) := rfl
theorem iMerger_findConflicts_18 : ai_find (ai_tab mMerger_findConflicts) 18 = some (.iconst 0, 19, 0, 0, 0, .int (nI 0), []) := rfl
theorem iMerger_findConflicts_19 : ai_find (ai_tab mMerger_findConflicts) 19 = some (.istore_n 2, 20, 2, 0, 0, .null, []) := rfl
theorem iMerger_findConflicts_20 : ai_find (ai_tab mMerger_findConflicts) 20 = some (.iload_n 2, 21, 2, 0, 0, .null, []) := rfl
theorem iMerger_findConflicts_21 : ai_find (ai_tab mMerger_findConflicts) 21 = some (.aload_n 0, 22, 0, 0, 0, .null, []) := rfl
theorem iMerger_findConflicts_22 : ai_find (ai_tab mMerger_findConflicts) 22 = some (.getfield 18, 25, 5, 1, 0, .null, []) := rfl
theorem iMerger_findConflicts_25 : ai_find (ai_tab mMerger_findConflicts) 25 = some (.invokevirtual 29, 28, 46, 1, 1, .ref 1, []) := rfl
theorem iMerger_findConflicts_28 : ai_find (ai_tab mMerger_findConflicts) 28 = some (.if_icmp .ge 58, 31, 86, 0, 0, .null, []) := rfl
theorem iMerger_findConflicts_31 : ai_find (ai_tab mMerger_findConflicts) 31 = some (.aload_n 0, 32, 0, 0, 0, .null, []) := rfl
theorem iMerger_findConflicts_32 : ai_find (ai_tab mMerger_findConflicts) 32 = some (.iload_n 1, 33, 1, 0, 0, .null, []) := rfl
theorem iMerger_findConflicts_33 : ai_find (ai_tab mMerger_findConflicts) 33 = some (.iload_n 2, 34, 2, 0, 0, .null, []) := rfl
theorem iMerger_findConflicts_34 : ai_find (ai_tab mMerger_findConflicts) 34 = some (.invokevirtual 33, 37, 93, 3, 1, .ref 5, []) := rfl
theorem iMerger_findConflicts_37 : ai_find (ai_tab mMerger_findConflicts) 37 = some (.ifCond .eq 43, 40, 80, 0, 0, .null, []) := rfl
theorem iMerger_findConflicts_40 : ai_find (ai_tab mMerger_findConflicts) 40 = some (.aload_n 0, 41, 0, 0, 0, .null, []) := rfl
theorem iMerger_findConflicts_41 : ai_find (ai_tab mMerger_findConflicts) 41 = some (.bipush 8, 43, 0, 0, 0, .int (nI 8), []) := rfl
theorem iMerger_findConflicts_43 : ai_find (ai_tab mMerger_findConflicts) 43 = some (.aload_n 0, 44, 0, 0, 0, .null, []) := rfl
theorem iMerger_findConflicts_44 : ai_find (ai_tab mMerger_findConflicts) 44 = some (.getfield 12, 47, 5, 0, 0, .null, []) := rfl
theorem iMerger_findConflicts_47 : ai_find (ai_tab mMerger_findConflicts) 47 = some (.iload_n 1, 48, 1, 0, 0, .null, []) := rfl
theorem iMerger_findConflicts_48 : ai_find (ai_tab mMerger_findConflicts) 48 = some (.invokevirtual 37, 51, 43, 2, 1, .ref 1, []) := rfl
theorem iMerger_findConflicts_51 : ai_find (ai_tab mMerger_findConflicts) 51 = some (.imul, 52, 0, 0, 0, .null, []) := rfl
theorem iMerger_findConflicts_52 : ai_find (ai_tab mMerger_findConflicts) 52 = some (.aload_n 0, 53, 0, 0, 0, .null, []) := rfl
theorem iMerger_findConflicts_53 : ai_find (ai_tab mMerger_findConflicts) 53 = some (.getfield 12, 56, 5, 0, 0, .null, []) := rfl
theorem iMerger_findConflicts_56 : ai_find (ai_tab mMerger_findConflicts) 56 = some (.iload_n 1, 57, 1, 0, 0, .null, []) := rfl
theorem iMerger_findConflicts_57 : ai_find (ai_tab mMerger_findConflicts) 57 = some (.invokevirtual 41, 60, 31, 2, 1, .ref 1, []) := rfl
theorem iMerger_findConflicts_60 : ai_find (ai_tab mMerger_findConflicts) 60 = some (.iconst 2, 61, 0, 0, 0, .int (nI 2), []) := rfl
theorem iMerger_findConflicts_61 : ai_find (ai_tab mMerger_findConflicts) 61 = some (.if_icmp .ne 14, 64, 75, 0, 0, .null, []) := rfl
theorem iMerger_findConflicts_64 : ai_find (ai_tab mMerger_findConflicts) 64 = some (.aload_n 0, 65, 0, 0, 0, .null, []) := rfl
theorem iMerger_findConflicts_65 : ai_find (ai_tab mMerger_findConflicts) 65 = some (.getfield 12, 68, 5, 0, 0, .null, []) := rfl
theorem iMerger_findConflicts_68 : ai_find (ai_tab mMerger_findConflicts) 68 = some (.iload_n 1, 69, 1, 0, 0, .null, []) := rfl
theorem iMerger_findConflicts_69 : ai_find (ai_tab mMerger_findConflicts) 69 = some (.invokevirtual 44, 72, 44, 2, 1, .ref 1, []) := rfl
theorem iMerger_findConflicts_72 : ai_find (ai_tab mMerger_findConflicts) 72 = some (.goto 4, 75, 76, 0, 0, .null, []) := rfl
theorem iMerger_findConflicts_75 : ai_find (ai_tab mMerger_findConflicts) 75 = some (.iconst 3, 76, 0, 0, 0, .int (nI 3), []) := rfl
theorem iMerger_findConflicts_76 : ai_find (ai_tab mMerger_findConflicts) 76 = some (.iadd, 77, 0, 0, 0, .null, []) := rfl
theorem iMerger_findConflicts_77 : ai_find (ai_tab mMerger_findConflicts) 77 = some (.invokevirtual 47, 80, 98, 2, 1, .ref 5, []) := rfl
theorem iMerger_findConflicts_80 : ai_find (ai_tab mMerger_findConflicts) 80 = some (.iinc 2 1, 83, 2, 0, 0, .int (nI 1), []) := rfl
theorem iMerger_findConflicts_83 : ai_find (ai_tab mMerger_findConflicts) 83 = some (.goto (-63), 86, 20, 0, 0, .null, []) := rfl
theorem iMerger_findConflicts_86 : ai_find (ai_tab mMerger_findConflicts) 86 = some (.iinc 1 1, 89, 1, 0, 0, .int (nI 1), []) := rfl
theorem iMerger_findConflicts_89 : ai_find (ai_tab mMerger_findConflicts) 89 = some (.goto (-82), 92, 7, 0, 0, .null, []) := rfl
theorem iMerger_findConflicts_92 : ai_find (ai_tab mMerger_findConflicts) 92 = some (.return_, 93, 0, 0, 0, .null, []) := rfl
theorem iMerger_join_0 : ai_find (ai_tab mMerger_join) 0 = some (.aload_n 1, 1, 1, 0, 0, .null, []) := rfl
theorem iMerger_join_1 : ai_find (ai_tab mMerger_join) 1 = some (.invokevirtual 62, 4, 30, 1, 1, .ref 1, []) := rfl
theorem iMerger_join_4 : ai_find (ai_tab mMerger_join) 4 = some (.iconst 0, 5, 0, 0, 0, .int (nI 0), []) := rfl
theorem iMerger_join_5 : ai_find (ai_tab mMerger_join) 5 = some (.istore_n 2, 6, 2, 0, 0, .null, []) := rfl
theorem iMerger_join_6 : ai_find (ai_tab mMerger_join) 6 = some (.iconst 0, 7, 0, 0, 0, .int (nI 0), []) := rfl
theorem iMerger_join_7 : ai_find (ai_tab mMerger_join) 7 = some (.istore_n 3, 8, 3, 0, 0, .null, []) := rfl
theorem iMerger_join_8 : ai_find (ai_tab mMerger_join) 8 = some (.iconst 0, 9, 0, 0, 0, .int (nI 0), []) := rfl
theorem iMerger_join_9 : ai_find (ai_tab mMerger_join) 9 = some (.istore 4, 11, 4, 0, 0, .null, []) := rfl
theorem iMerger_join_11 : ai_find (ai_tab mMerger_join) 11 = some (.iload 4, 13, 4, 0, 0, .null, []) := rfl
theorem iMerger_join_13 : ai_find (ai_tab mMerger_join) 13 = some (.sipush 254, 16, 0, 0, 0, .int (nI 254), []) := rfl
theorem iMerger_join_16 : ai_find (ai_tab mMerger_join) 16 = some (.if_icmp .ge 166, 19, 182, 0, 0, .null, []) := rfl
theorem iMerger_join_19 : ai_find (ai_tab mMerger_join) 19 = some (.iload_n 2, 20, 2, 0, 0, .null, []) := rfl
theorem iMerger_join_20 : ai_find (ai_tab mMerger_join) 20 = some (.aload_n 0, 21, 0, 0, 0, .null, []) := rfl
theorem iMerger_join_21 : ai_find (ai_tab mMerger_join) 21 = some (.getfield 12, 24, 5, 0, 0, .null, []) := rfl
theorem iMerger_join_24 : ai_find (ai_tab mMerger_join) 24 = some (.invokevirtual 29, 27, 46, 1, 1, .ref 1, []) := rfl
theorem iMerger_join_27 : ai_find (ai_tab mMerger_join) 27 = some (.if_icmp .ge 37, 30, 64, 0, 0, .null, []) := rfl
theorem iMerger_join_30 : ai_find (ai_tab mMerger_join) 30 = some (.iload_n 3, 31, 3, 0, 0, .null, []) := rfl
theorem iMerger_join_31 : ai_find (ai_tab mMerger_join) 31 = some (.aload_n 0, 32, 0, 0, 0, .null, []) := rfl
theorem iMerger_join_32 : ai_find (ai_tab mMerger_join) 32 = some (.getfield 18, 35, 5, 1, 0, .null, []) := rfl
theorem iMerger_join_35 : ai_find (ai_tab mMerger_join) 35 = some (.invokevirtual 29, 38, 46, 1, 1, .ref 1, []) := rfl
theorem iMerger_join_38 : ai_find (ai_tab mMerger_join) 38 = some (.if_icmp .ge 22, 41, 60, 0, 0, .null, []) := rfl
theorem iMerger_join_41 : ai_find (ai_tab mMerger_join) 41 = some (.aload_n 0, 42, 0, 0, 0, .null, []) := rfl
theorem iMerger_join_42 : ai_find (ai_tab mMerger_join) 42 = some (.getfield 12, 45, 5, 0, 0, .null, []) := rfl
theorem iMerger_join_45 : ai_find (ai_tab mMerger_join) 45 = some (.iload_n 2, 46, 2, 0, 0, .null, []) := rfl
theorem iMerger_join_46 : ai_find (ai_tab mMerger_join) 46 = some (.invokevirtual 65, 49, 45, 2, 1, .ref 1, []) := rfl
theorem iMerger_join_49 : ai_find (ai_tab mMerger_join) 49 = some (.aload_n 0, 50, 0, 0, 0, .null, []) := rfl
theorem iMerger_join_50 : ai_find (ai_tab mMerger_join) 50 = some (.getfield 18, 53, 5, 1, 0, .null, []) := rfl
theorem iMerger_join_53 : ai_find (ai_tab mMerger_join) 53 = some (.iload_n 3, 54, 3, 0, 0, .null, []) := rfl
theorem iMerger_join_54 : ai_find (ai_tab mMerger_join) 54 = some (.invokevirtual 65, 57, 45, 2, 1, .ref 1, []) := rfl
theorem iMerger_join_57 : ai_find (ai_tab mMerger_join) 57 = some (.if_icmp .gt 7, 60, 64, 0, 0, .null, []) := rfl
theorem iMerger_join_60 : ai_find (ai_tab mMerger_join) 60 = some (.iconst 1, 61, 0, 0, 0, .int (nI 1), []) := rfl
theorem iMerger_join_61 : ai_find (ai_tab mMerger_join) 61 = some (.goto 4, 64, 65, 0, 0, .null, []) := rfl
theorem iMerger_join_64 : ai_find (ai_tab mMerger_join) 64 = some (.iconst 0, 65, 0, 0, 0, .int (nI 0), []) := rfl
theorem iMerger_join_65 : ai_find (ai_tab mMerger_join) 65 = some (.istore 5, 67, 5, 0, 0, .null, []) := rfl
theorem iMerger_join_67 : ai_find (ai_tab mMerger_join) 67 = some (.iload_n 3, 68, 3, 0, 0, .null, []) := rfl
theorem iMerger_join_68 : ai_find (ai_tab mMerger_join) 68 = some (.aload_n 0, 69, 0, 0, 0, .null, []) := rfl
theorem iMerger_join_69 : ai_find (ai_tab mMerger_join) 69 = some (.getfield 18, 72, 5, 1, 0, .null, []) := rfl
theorem iMerger_join_72 : ai_find (ai_tab mMerger_join) 72 = some (.invokevirtual 29, 75, 46, 1, 1, .ref 1, []) := rfl
theorem iMerger_join_75 : ai_find (ai_tab mMerger_join) 75 = some (.if_icmp .ge 37, 78, 112, 0, 0, .null, []) := rfl
theorem iMerger_join_78 : ai_find (ai_tab mMerger_join) 78 = some (.iload_n 2, 79, 2, 0, 0, .null, []) := rfl
theorem iMerger_join_79 : ai_find (ai_tab mMerger_join) 79 = some (.aload_n 0, 80, 0, 0, 0, .null, []) := rfl
theorem iMerger_join_80 : ai_find (ai_tab mMerger_join) 80 = some (.getfield 12, 83, 5, 0, 0, .null, []) := rfl
theorem iMerger_join_83 : ai_find (ai_tab mMerger_join) 83 = some (.invokevirtual 29, 86, 46, 1, 1, .ref 1, []) := rfl
theorem iMerger_join_86 : ai_find (ai_tab mMerger_join) 86 = some (.if_icmp .ge 22, 89, 108, 0, 0, .null, []) := rfl
theorem iMerger_join_89 : ai_find (ai_tab mMerger_join) 89 = some (.aload_n 0, 90, 0, 0, 0, .null, []) := rfl
theorem iMerger_join_90 : ai_find (ai_tab mMerger_join) 90 = some (.getfield 18, 93, 5, 1, 0, .null, []) := rfl
theorem iMerger_join_93 : ai_find (ai_tab mMerger_join) 93 = some (.iload_n 3, 94, 3, 0, 0, .null, []) := rfl
theorem iMerger_join_94 : ai_find (ai_tab mMerger_join) 94 = some (.invokevirtual 65, 97, 45, 2, 1, .ref 1, []) := rfl
theorem iMerger_join_97 : ai_find (ai_tab mMerger_join) 97 = some (.aload_n 0, 98, 0, 0, 0, .null, []) := rfl
theorem iMerger_join_98 : ai_find (ai_tab mMerger_join) 98 = some (.getfield 12, 101, 5, 0, 0, .null, []) := rfl
theorem iMerger_join_101 : ai_find (ai_tab mMerger_join) 101 = some (.iload_n 2, 102, 2, 0, 0, .null, []) := rfl
theorem iMerger_join_102 : ai_find (ai_tab mMerger_join) 102 = some (.invokevirtual 65, 105, 45, 2, 1, .ref 1, []) := rfl
theorem iMerger_join_105 : ai_find (ai_tab mMerger_join) 105 = some (.if_icmp .gt 7, 108, 112, 0, 0, .null, []) := rfl
theorem iMerger_join_108 : ai_find (ai_tab mMerger_join) 108 = some (.iconst 1, 109, 0, 0, 0, .int (nI 1), []) := rfl
theorem iMerger_join_109 : ai_find (ai_tab mMerger_join) 109 = some (.goto 4, 112, 113, 0, 0, .null, []) := rfl
theorem iMerger_join_112 : ai_find (ai_tab mMerger_join) 112 = some (.iconst 0, 113, 0, 0, 0, .int (nI 0), []) := rfl
theorem iMerger_join_113 : ai_find (ai_tab mMerger_join) 113 = some (.istore 6, 115, 6, 0, 0, .null, []) := rfl
theorem iMerger_join_115 : ai_find (ai_tab mMerger_join) 115 = some (.iload 5, 117, 5, 0, 0, .null, []) := rfl
theorem iMerger_join_117 : ai_find (ai_tab mMerger_join) 117 = some (.ifCond .eq 15, 120, 132, 0, 0, .null, []) := rfl
theorem iMerger_join_120 : ai_find (ai_tab mMerger_join) 120 = some (.aload_n 1, 121, 1, 0, 0, .null, []) := rfl
theorem iMerger_join_121 : ai_find (ai_tab mMerger_join) 121 = some (.aload_n 0, 122, 0, 0, 0, .null, []) := rfl
set_option maxRecDepth 20000 in theorem iMerger_join_122 : ai_find (ai_tab mMerger_join) 122 = some (.getfield 12, 125, 5, 0, 0, .null, []) := rfl
set_option maxRecDepth 20000 in theorem iMerger_join_125 : ai_find (ai_tab mMerger_join) 125 = some (.iload_n 2, 126, 2, 0, 0, .null, []) := rfl
set_option maxRecDepth 20000 in theorem iMerger_join_126 : ai_find (ai_tab mMerger_join) 126 = some (.invokevirtual 68, 129, 25, 3, 1, .ref 1, []) := rfl
set_option maxRecDepth 20000 in theorem iMerger_join_129 : ai_find (ai_tab mMerger_join) 129 = some (.goto 21, 132, 150, 0, 0, .null, []) := rfl
set_option maxRecDepth 20000 in theorem iMerger_join_132 : ai_find (ai_tab mMerger_join) 132 = some (.iload 6, 134, 6, 0, 0, .null, []) := rfl
set_option maxRecDepth 20000 in theorem iMerger_join_134 : ai_find (ai_tab mMerger_join) 134 = some (.ifCond .eq 15, 137, 149, 0, 0, .null, []) := rfl
set_option maxRecDepth 20000 in theorem iMerger_join_137 : ai_find (ai_tab mMerger_join) 137 = some (.aload_n 1, 138, 1, 0, 0, .null, []) := rfl
set_option maxRecDepth 20000 in theorem iMerger_join_138 : ai_find (ai_tab mMerger_join) 138 = some (.aload_n 0, 139, 0, 0, 0, .null, []) := rfl
set_option maxRecDepth 20000 in theorem iMerger_join_139 : ai_find (ai_tab mMerger_join) 139 = some (.getfield 18, 142, 5, 1, 0, .null, []) := rfl
set_option maxRecDepth 20000 in theorem iMerger_join_142 : ai_find (ai_tab mMerger_join) 142 = some (.iload_n 3, 143, 3, 0, 0, .null, []) := rfl
set_option maxRecDepth 20000 in theorem iMerger_join_143 : ai_find (ai_tab mMerger_join) 143 = some (.invokevirtual 68, 146, 25, 3, 1, .ref 1, []) := rfl
set_option maxRecDepth 20000 in theorem iMerger_join_146 : ai_find (ai_tab mMerger_join) 146 = some (.goto 4, 149, 150, 0, 0, .null, []) := rfl
set_option maxRecDepth 20000 in theorem iMerger_join_149 : ai_find (ai_tab mMerger_join) 149 = some (.return_, 150, 0, 0, 0, .null, []) := rfl
set_option maxRecDepth 20000 in theorem iMerger_join_150 : ai_find (ai_tab mMerger_join) 150 = some (.iload_n 2, 151, 2, 0, 0, .null, []) := rfl
set_option maxRecDepth 20000 in theorem iMerger_join_151 : ai_find (ai_tab mMerger_join) 151 = some (.iload 5, 153, 5, 0, 0, .null, []) := rfl
set_option maxRecDepth 20000 in theorem iMerger_join_153 : ai_find (ai_tab mMerger_join) 153 = some (.ifCond .eq 7, 156, 160, 0, 0, .null, []) := rfl
set_option maxRecDepth 20000 in theorem iMerger_join_156 : ai_find (ai_tab mMerger_join) 156 = some (.iconst 1, 157, 0, 0, 0, .int (nI 1), []) := rfl
set_option maxRecDepth 20000 in theorem iMerger_join_157 : ai_find (ai_tab mMerger_join) 157 = some (.goto 4, 160, 161, 0, 0, .null, []) := rfl
set_option maxRecDepth 20000 in theorem iMerger_join_160 : ai_find (ai_tab mMerger_join) 160 = some (.iconst 0, 161, 0, 0, 0, .int (nI 0), []) := rfl
set_option maxRecDepth 20000 in theorem iMerger_join_161 : ai_find (ai_tab mMerger_join) 161 = some (.iadd, 162, 0, 0, 0, .null, []) := rfl
set_option maxRecDepth 20000 in theorem iMerger_join_162 : ai_find (ai_tab mMerger_join) 162 = some (.istore_n 2, 163, 2, 0, 0, .null, []) := rfl
set_option maxRecDepth 20000 in theorem iMerger_join_163 : ai_find (ai_tab mMerger_join) 163 = some (.iload_n 3, 164, 3, 0, 0, .null, []) := rfl
set_option maxRecDepth 20000 in theorem iMerger_join_164 : ai_find (ai_tab mMerger_join) 164 = some (.iload 6, 166, 6, 0, 0, .null, []) := rfl
set_option maxRecDepth 20000 in theorem iMerger_join_166 : ai_find (ai_tab mMerger_join) 166 = some (.ifCond .eq 7, 169, 173, 0, 0, .null, []) := rfl
set_option maxRecDepth 20000 in theorem iMerger_join_169 : ai_find (ai_tab mMerger_join) 169 = some (.iconst 1, 170, 0, 0, 0, .int (nI 1), []) := rfl
set_option maxRecDepth 20000 in theorem iMerger_join_170 : ai_find (ai_tab mMerger_join) 170 = some (.goto 4, 173, 174, 0, 0, .null, []) := rfl
set_option maxRecDepth 20000 in theorem iMerger_join_173 : ai_find (ai_tab mMerger_join) 173 = some (.iconst 0, 174, 0, 0, 0, .int (nI 0), []) := rfl
set_option maxRecDepth 20000 in theorem iMerger_join_174 : ai_find (ai_tab mMerger_join) 174 = some (.iadd, 175, 0, 0, 0, .null, []) := rfl
set_option maxRecDepth 20000 in theorem iMerger_join_175 : ai_find (ai_tab mMerger_join) 175 = some (.istore_n 3, 176, 3, 0, 0, .null, []) := rfl
set_option maxRecDepth 20000 in theorem iMerger_join_176 : ai_find (ai_tab mMerger_join) 176 = some (.iinc 4 1, 179, 4, 0, 0, .int (nI 1), []) := rfl
set_option maxRecDepth 20000 in theorem iMerger_join_179 : ai_find (ai_tab mMerger_join) 179 = some (.goto (-168), 182, 11, 0, 0, .null, []) := rfl
set_option maxRecDepth 20000 in theorem iMerger_join_182 : ai_find (ai_tab mMerger_join) 182 = some (.return_, 183, 0, 0, 0, .null, []) := rfl
theorem iMerger_note_0 : ai_find (ai_tab mMerger_note) 0 = some (.aload_n 0, 1, 0, 0, 0, .null, []) := rfl
theorem iMerger_note_1 : ai_find (ai_tab mMerger_note) 1 = some (.getfield 25, 4, 5, 3, 0, .null, []) := rfl
theorem iMerger_note_4 : ai_find (ai_tab mMerger_note) 4 = some (.ifCond .le 22, 7, 26, 0, 0, .null, []) := rfl
theorem iMerger_note_7 : ai_find (ai_tab mMerger_note) 7 = some (.aload_n 0, 8, 0, 0, 0, .null, []) := rfl
theorem iMerger_note_8 : ai_find (ai_tab mMerger_note) 8 = some (.getfield 21, 11, 5, 2, 0, .null, []) := rfl
theorem iMerger_note_11 : ai_find (ai_tab mMerger_note) 11 = some (.aload_n 0, 12, 0, 0, 0, .null, []) := rfl
theorem iMerger_note_12 : ai_find (ai_tab mMerger_note) 12 = some (.getfield 25, 15, 5, 3, 0, .null, []) := rfl
theorem iMerger_note_15 : ai_find (ai_tab mMerger_note) 15 = some (.iconst 1, 16, 0, 0, 0, .int (nI 1), []) := rfl
theorem iMerger_note_16 : ai_find (ai_tab mMerger_note) 16 = some (.isub, 17, 0, 0, 0, .null, []) := rfl
theorem iMerger_note_17 : ai_find (ai_tab mMerger_note) 17 = some (.iaload, 18, 0, 0, 0, .null, []) := rfl
theorem iMerger_note_18 : ai_find (ai_tab mMerger_note) 18 = some (.iload_n 1, 19, 1, 0, 0, .null, []) := rfl
theorem iMerger_note_19 : ai_find (ai_tab mMerger_note) 19 = some (.if_icmp .ne 7, 22, 26, 0, 0, .null, []) := rfl
theorem iMerger_note_22 : ai_find (ai_tab mMerger_note) 22 = some (.iconst 1, 23, 0, 0, 0, .int (nI 1), []) := rfl
theorem iMerger_note_23 : ai_find (ai_tab mMerger_note) 23 = some (.goto 4, 26, 27, 0, 0, .null, []) := rfl
theorem iMerger_note_26 : ai_find (ai_tab mMerger_note) 26 = some (.iconst 0, 27, 0, 0, 0, .int (nI 0), []) := rfl
theorem iMerger_note_27 : ai_find (ai_tab mMerger_note) 27 = some (.istore_n 2, 28, 2, 0, 0, .null, []) := rfl
theorem iMerger_note_28 : ai_find (ai_tab mMerger_note) 28 = some (.iload_n 2, 29, 2, 0, 0, .null, []) := rfl
theorem iMerger_note_29 : ai_find (ai_tab mMerger_note) 29 = some (.ifCond .ne 35, 32, 64, 0, 0, .null, []) := rfl
theorem iMerger_note_32 : ai_find (ai_tab mMerger_note) 32 = some (.aload_n 0, 33, 0, 0, 0, .null, []) := rfl
theorem iMerger_note_33 : ai_find (ai_tab mMerger_note) 33 = some (.getfield 25, 36, 5, 3, 0, .null, []) := rfl
theorem iMerger_note_36 : ai_find (ai_tab mMerger_note) 36 = some (.aload_n 0, 37, 0, 0, 0, .null, []) := rfl
theorem iMerger_note_37 : ai_find (ai_tab mMerger_note) 37 = some (.getfield 21, 40, 5, 2, 0, .null, []) := rfl
theorem iMerger_note_40 : ai_find (ai_tab mMerger_note) 40 = some (.arraylength, 41, 0, 0, 0, .null, []) := rfl
theorem iMerger_note_41 : ai_find (ai_tab mMerger_note) 41 = some (.if_icmp .ge 23, 44, 64, 0, 0, .null, []) := rfl
theorem iMerger_note_44 : ai_find (ai_tab mMerger_note) 44 = some (.aload_n 0, 45, 0, 0, 0, .null, []) := rfl
theorem iMerger_note_45 : ai_find (ai_tab mMerger_note) 45 = some (.getfield 21, 48, 5, 2, 0, .null, []) := rfl
theorem iMerger_note_48 : ai_find (ai_tab mMerger_note) 48 = some (.aload_n 0, 49, 0, 0, 0, .null, []) := rfl
theorem iMerger_note_49 : ai_find (ai_tab mMerger_note) 49 = some (.getfield 25, 52, 5, 3, 0, .null, []) := rfl
theorem iMerger_note_52 : ai_find (ai_tab mMerger_note) 52 = some (.iload_n 1, 53, 1, 0, 0, .null, []) := rfl
theorem iMerger_note_53 : ai_find (ai_tab mMerger_note) 53 = some (.iastore, 54, 0, 0, 0, .null, []) := rfl
theorem iMerger_note_54 : ai_find (ai_tab mMerger_note) 54 = some (.aload_n 0, 55, 0, 0, 0, .null, []) := rfl
theorem iMerger_note_55 : ai_find (ai_tab mMerger_note) 55 = some (.dup, 56, 0, 0, 0, .null, []) := rfl
theorem iMerger_note_56 : ai_find (ai_tab mMerger_note) 56 = some (.getfield 25, 59, 5, 3, 0, .null, []) := rfl
theorem iMerger_note_59 : ai_find (ai_tab mMerger_note) 59 = some (.iconst 1, 60, 0, 0, 0, .int (nI 1), []) := rfl
theorem iMerger_note_60 : ai_find (ai_tab mMerger_note) 60 = some (.iadd, 61, 0, 0, 0, .null, []) := rfl
theorem iMerger_note_61 : ai_find (ai_tab mMerger_note) 61 = some (.putfield 25, 64, 5, 3, 0, .null, []) := rfl
theorem iMerger_note_64 : ai_find (ai_tab mMerger_note) 64 = some (.return_, 65, 0, 0, 0, .null, []) := rfl
theorem iPatch_build_0 : ai_find (ai_tab mPatch_build) 0 = some (.aload_n 2, 1, 2, 0, 0, .null, []) := rfl
theorem iPatch_build_1 : ai_find (ai_tab mPatch_build) 1 = some (.aload_n 1, 2, 1, 0, 0, .null, []) := rfl
theorem iPatch_build_2 : ai_find (ai_tab mPatch_build) 2 = some (.invokevirtual 77, 5, 73, 2, 1, .ref 4, []) := rfl
theorem iPatch_build_5 : ai_find (ai_tab mPatch_build) 5 = some (.iconst 0, 6, 0, 0, 0, .int (nI 0), []) := rfl
theorem iPatch_build_6 : ai_find (ai_tab mPatch_build) 6 = some (.istore_n 3, 7, 3, 0, 0, .null, []) := rfl
theorem iPatch_build_7 : ai_find (ai_tab mPatch_build) 7 = some (.iload_n 3, 8, 3, 0, 0, .null, []) := rfl
theorem iPatch_build_8 : ai_find (ai_tab mPatch_build) 8 = some (.aload_n 0, 9, 0, 0, 0, .null, []) := rfl
theorem iPatch_build_9 : ai_find (ai_tab mPatch_build) 9 = some (.invokevirtual 9, 12, 46, 1, 1, .ref 1, []) := rfl
theorem iPatch_build_12 : ai_find (ai_tab mPatch_build) 12 = some (.if_icmp .ge 69, 15, 81, 0, 0, .null, []) := rfl
theorem iPatch_build_15 : ai_find (ai_tab mPatch_build) 15 = some (.aload_n 0, 16, 0, 0, 0, .null, []) := rfl
theorem iPatch_build_16 : ai_find (ai_tab mPatch_build) 16 = some (.iload_n 3, 17, 3, 0, 0, .null, []) := rfl
theorem iPatch_build_17 : ai_find (ai_tab mPatch_build) 17 = some (.invokevirtual 31, 20, 43, 2, 1, .ref 1, []) := rfl
theorem iPatch_build_20 : ai_find (ai_tab mPatch_build) 20 = some (.istore 4, 22, 4, 0, 0, .null, []) := rfl
theorem iPatch_build_22 : ai_find (ai_tab mPatch_build) 22 = some (.aload_n 0, 23, 0, 0, 0, .null, []) := rfl
theorem iPatch_build_23 : ai_find (ai_tab mPatch_build) 23 = some (.iload_n 3, 24, 3, 0, 0, .null, []) := rfl
theorem iPatch_build_24 : ai_find (ai_tab mPatch_build) 24 = some (.invokevirtual 34, 27, 31, 2, 1, .ref 1, []) := rfl
theorem iPatch_build_27 : ai_find (ai_tab mPatch_build) 27 = some (.iconst 1, 28, 0, 0, 0, .int (nI 1), []) := rfl
theorem iPatch_build_28 : ai_find (ai_tab mPatch_build) 28 = some (.if_icmp .ne 17, 31, 45, 0, 0, .null, []) := rfl
theorem iPatch_build_31 : ai_find (ai_tab mPatch_build) 31 = some (.aload_n 2, 32, 2, 0, 0, .null, []) := rfl
theorem iPatch_build_32 : ai_find (ai_tab mPatch_build) 32 = some (.iload 4, 34, 4, 0, 0, .null, []) := rfl
theorem iPatch_build_34 : ai_find (ai_tab mPatch_build) 34 = some (.aload_n 0, 35, 0, 0, 0, .null, []) := rfl
theorem iPatch_build_35 : ai_find (ai_tab mPatch_build) 35 = some (.iload_n 3, 36, 3, 0, 0, .null, []) := rfl
theorem iPatch_build_36 : ai_find (ai_tab mPatch_build) 36 = some (.invokevirtual 41, 39, 44, 2, 1, .ref 1, []) := rfl
theorem iPatch_build_39 : ai_find (ai_tab mPatch_build) 39 = some (.invokevirtual 81, 42, 71, 3, 1, .ref 4, []) := rfl
theorem iPatch_build_42 : ai_find (ai_tab mPatch_build) 42 = some (.goto 33, 45, 75, 0, 0, .null, []) := rfl
theorem iPatch_build_45 : ai_find (ai_tab mPatch_build) 45 = some (.aload_n 0, 46, 0, 0, 0, .null, []) := rfl
theorem iPatch_build_46 : ai_find (ai_tab mPatch_build) 46 = some (.iload_n 3, 47, 3, 0, 0, .null, []) := rfl
theorem iPatch_build_47 : ai_find (ai_tab mPatch_build) 47 = some (.invokevirtual 34, 50, 31, 2, 1, .ref 1, []) := rfl
theorem iPatch_build_50 : ai_find (ai_tab mPatch_build) 50 = some (.iconst 2, 51, 0, 0, 0, .int (nI 2), []) := rfl
theorem iPatch_build_51 : ai_find (ai_tab mPatch_build) 51 = some (.if_icmp .ne 24, 54, 75, 0, 0, .null, []) := rfl
theorem iPatch_build_54 : ai_find (ai_tab mPatch_build) 54 = some (.aload_n 2, 55, 2, 0, 0, .null, []) := rfl
theorem iPatch_build_55 : ai_find (ai_tab mPatch_build) 55 = some (.iload 4, 57, 4, 0, 0, .null, []) := rfl
theorem iPatch_build_57 : ai_find (ai_tab mPatch_build) 57 = some (.aload_n 0, 58, 0, 0, 0, .null, []) := rfl
theorem iPatch_build_58 : ai_find (ai_tab mPatch_build) 58 = some (.iload_n 3, 59, 3, 0, 0, .null, []) := rfl
theorem iPatch_build_59 : ai_find (ai_tab mPatch_build) 59 = some (.invokevirtual 41, 62, 44, 2, 1, .ref 1, []) := rfl
theorem iPatch_build_62 : ai_find (ai_tab mPatch_build) 62 = some (.aload_n 0, 63, 0, 0, 0, .null, []) := rfl
theorem iPatch_build_63 : ai_find (ai_tab mPatch_build) 63 = some (.iload_n 3, 64, 3, 0, 0, .null, []) := rfl
theorem iPatch_build_64 : ai_find (ai_tab mPatch_build) 64 = some (.invokevirtual 55, 67, 48, 2, 1, .ref 1, []) := rfl
theorem iPatch_build_67 : ai_find (ai_tab mPatch_build) 67 = some (.aload_n 0, 68, 0, 0, 0, .null, []) := rfl
theorem iPatch_build_68 : ai_find (ai_tab mPatch_build) 68 = some (.iload_n 3, 69, 3, 0, 0, .null, []) := rfl
theorem iPatch_build_69 : ai_find (ai_tab mPatch_build) 69 = some (.invokevirtual 58, 72, 32, 2, 1, .ref 1, []) := rfl
theorem iPatch_build_72 : ai_find (ai_tab mPatch_build) 72 = some (.invokevirtual 85, 75, 78, 5, 1, .ref 4, []) := rfl
theorem iPatch_build_75 : ai_find (ai_tab mPatch_build) 75 = some (.iinc 3 1, 78, 3, 0, 0, .int (nI 1), []) := rfl
theorem iPatch_build_78 : ai_find (ai_tab mPatch_build) 78 = some (.goto (-71), 81, 7, 0, 0, .null, []) := rfl
theorem iPatch_build_81 : ai_find (ai_tab mPatch_build) 81 = some (.iconst 0, 82, 0, 0, 0, .int (nI 0), []) := rfl
theorem iPatch_build_82 : ai_find (ai_tab mPatch_build) 82 = some (.istore_n 3, 83, 3, 0, 0, .null, []) := rfl
theorem iPatch_build_83 : ai_find (ai_tab mPatch_build) 83 = some (.iload_n 3, 84, 3, 0, 0, .null, []) := rfl
theorem iPatch_build_84 : ai_find (ai_tab mPatch_build) 84 = some (.bipush 16, 86, 0, 0, 0, .int (nI 16), []) := rfl
theorem iPatch_build_86 : ai_find (ai_tab mPatch_build) 86 = some (.if_icmp .ge 24, 89, 110, 0, 0, .null, []) := rfl
theorem iPatch_build_89 : ai_find (ai_tab mPatch_build) 89 = some (.aload_n 2, 90, 2, 0, 0, .null, []) := rfl
theorem iPatch_build_90 : ai_find (ai_tab mPatch_build) 90 = some (.iload_n 3, 91, 3, 0, 0, .null, []) := rfl
theorem iPatch_build_91 : ai_find (ai_tab mPatch_build) 91 = some (.invokevirtual 89, 94, 83, 2, 1, .ref 4, []) := rfl
theorem iPatch_build_94 : ai_find (ai_tab mPatch_build) 94 = some (.ifCond .eq 10, 97, 104, 0, 0, .null, []) := rfl
theorem iPatch_build_97 : ai_find (ai_tab mPatch_build) 97 = some (.aload_n 0, 98, 0, 0, 0, .null, []) := rfl
theorem iPatch_build_98 : ai_find (ai_tab mPatch_build) 98 = some (.iload_n 3, 99, 3, 0, 0, .null, []) := rfl
theorem iPatch_build_99 : ai_find (ai_tab mPatch_build) 99 = some (.aload_n 1, 100, 1, 0, 0, .null, []) := rfl
theorem iPatch_build_100 : ai_find (ai_tab mPatch_build) 100 = some (.aload_n 2, 101, 2, 0, 0, .null, []) := rfl
theorem iPatch_build_101 : ai_find (ai_tab mPatch_build) 101 = some (.invokestatic 92, 104, 100, 4, 0, .null, []) := rfl
theorem iPatch_build_104 : ai_find (ai_tab mPatch_build) 104 = some (.iinc 3 1, 107, 3, 0, 0, .int (nI 1), []) := rfl
theorem iPatch_build_107 : ai_find (ai_tab mPatch_build) 107 = some (.goto (-24), 110, 83, 0, 0, .null, []) := rfl
theorem iPatch_build_110 : ai_find (ai_tab mPatch_build) 110 = some (.aload_n 2, 111, 2, 0, 0, .null, []) := rfl
set_option maxRecDepth 20000 in theorem iPatch_build_111 : ai_find (ai_tab mPatch_build) 111 = some (.invokevirtual 96, 114, 76, 1, 1, .ref 4, []) := rfl
set_option maxRecDepth 20000 in theorem iPatch_build_114 : ai_find (ai_tab mPatch_build) 114 = some (.return_, 115, 0, 0, 0, .null, []) := rfl
theorem iPatch_buildList_0 : ai_find (ai_tab mPatch_buildList) 0 = some (.aload_n 3, 1, 3, 0, 0, .null, []) := rfl
theorem iPatch_buildList_1 : ai_find (ai_tab mPatch_buildList) 1 = some (.iload_n 1, 2, 1, 0, 0, .null, []) := rfl
theorem iPatch_buildList_2 : ai_find (ai_tab mPatch_buildList) 2 = some (.iconst 1, 3, 0, 0, 0, .int (nI 1), []) := rfl
theorem iPatch_buildList_3 : ai_find (ai_tab mPatch_buildList) 3 = some (.invokevirtual 81, 6, 71, 3, 1, .ref 4, []) := rfl
theorem iPatch_buildList_6 : ai_find (ai_tab mPatch_buildList) 6 = some (.iconst 0, 7, 0, 0, 0, .int (nI 0), []) := rfl
theorem iPatch_buildList_7 : ai_find (ai_tab mPatch_buildList) 7 = some (.istore 4, 9, 4, 0, 0, .null, []) := rfl
theorem iPatch_buildList_9 : ai_find (ai_tab mPatch_buildList) 9 = some (.iconst 0, 10, 0, 0, 0, .int (nI 0), []) := rfl
theorem iPatch_buildList_10 : ai_find (ai_tab mPatch_buildList) 10 = some (.istore 5, 12, 5, 0, 0, .null, []) := rfl
theorem iPatch_buildList_12 : ai_find (ai_tab mPatch_buildList) 12 = some (.iload 5, 14, 5, 0, 0, .null, []) := rfl
theorem iPatch_buildList_14 : ai_find (ai_tab mPatch_buildList) 14 = some (.aload_n 0, 15, 0, 0, 0, .null, []) := rfl
theorem iPatch_buildList_15 : ai_find (ai_tab mPatch_buildList) 15 = some (.invokevirtual 9, 18, 46, 1, 1, .ref 1, []) := rfl
theorem iPatch_buildList_18 : ai_find (ai_tab mPatch_buildList) 18 = some (.if_icmp .ge 75, 21, 93, 0, 0, .null, []) := rfl
theorem iPatch_buildList_21 : ai_find (ai_tab mPatch_buildList) 21 = some (.aload_n 0, 22, 0, 0, 0, .null, []) := rfl
theorem iPatch_buildList_22 : ai_find (ai_tab mPatch_buildList) 22 = some (.iload 5, 24, 5, 0, 0, .null, []) := rfl
theorem iPatch_buildList_24 : ai_find (ai_tab mPatch_buildList) 24 = some (.iconst 3, 25, 0, 0, 0, .int (nI 3), []) := rfl
theorem iPatch_buildList_25 : ai_find (ai_tab mPatch_buildList) 25 = some (.iload_n 1, 26, 1, 0, 0, .null, []) := rfl
theorem iPatch_buildList_26 : ai_find (ai_tab mPatch_buildList) 26 = some (.invokevirtual 67, 29, 41, 4, 1, .ref 1, []) := rfl
theorem iPatch_buildList_29 : ai_find (ai_tab mPatch_buildList) 29 = some (.ifCond .eq 58, 32, 87, 0, 0, .null, []) := rfl
theorem iPatch_buildList_32 : ai_find (ai_tab mPatch_buildList) 32 = some (.aload_n 2, 33, 2, 0, 0, .null, []) := rfl
theorem iPatch_buildList_33 : ai_find (ai_tab mPatch_buildList) 33 = some (.iload_n 1, 34, 1, 0, 0, .null, []) := rfl
theorem iPatch_buildList_34 : ai_find (ai_tab mPatch_buildList) 34 = some (.iload 4, 36, 4, 0, 0, .null, []) := rfl
theorem iPatch_buildList_36 : ai_find (ai_tab mPatch_buildList) 36 = some (.aload_n 0, 37, 0, 0, 0, .null, []) := rfl
theorem iPatch_buildList_37 : ai_find (ai_tab mPatch_buildList) 37 = some (.iload 5, 39, 5, 0, 0, .null, []) := rfl
theorem iPatch_buildList_39 : ai_find (ai_tab mPatch_buildList) 39 = some (.invokevirtual 41, 42, 44, 2, 1, .ref 1, []) := rfl
theorem iPatch_buildList_42 : ai_find (ai_tab mPatch_buildList) 42 = some (.aload_n 3, 43, 3, 0, 0, .null, []) := rfl
theorem iPatch_buildList_43 : ai_find (ai_tab mPatch_buildList) 43 = some (.invokestatic 99, 46, 102, 5, 0, .null, []) := rfl
theorem iPatch_buildList_46 : ai_find (ai_tab mPatch_buildList) 46 = some (.iconst 0, 47, 0, 0, 0, .int (nI 0), []) := rfl
theorem iPatch_buildList_47 : ai_find (ai_tab mPatch_buildList) 47 = some (.istore 6, 49, 6, 0, 0, .null, []) := rfl
theorem iPatch_buildList_49 : ai_find (ai_tab mPatch_buildList) 49 = some (.iload 6, 51, 6, 0, 0, .null, []) := rfl
theorem iPatch_buildList_51 : ai_find (ai_tab mPatch_buildList) 51 = some (.aload_n 0, 52, 0, 0, 0, .null, []) := rfl
theorem iPatch_buildList_52 : ai_find (ai_tab mPatch_buildList) 52 = some (.iload 5, 54, 5, 0, 0, .null, []) := rfl
theorem iPatch_buildList_54 : ai_find (ai_tab mPatch_buildList) 54 = some (.invokevirtual 71, 57, 40, 2, 1, .ref 1, []) := rfl
theorem iPatch_buildList_57 : ai_find (ai_tab mPatch_buildList) 57 = some (.if_icmp .ge 22, 60, 79, 0, 0, .null, []) := rfl
theorem iPatch_buildList_60 : ai_find (ai_tab mPatch_buildList) 60 = some (.aload_n 3, 61, 3, 0, 0, .null, []) := rfl
theorem iPatch_buildList_61 : ai_find (ai_tab mPatch_buildList) 61 = some (.iload_n 1, 62, 1, 0, 0, .null, []) := rfl
theorem iPatch_buildList_62 : ai_find (ai_tab mPatch_buildList) 62 = some (.aload_n 0, 63, 0, 0, 0, .null, []) := rfl
theorem iPatch_buildList_63 : ai_find (ai_tab mPatch_buildList) 63 = some (.iload 5, 65, 5, 0, 0, .null, []) := rfl
theorem iPatch_buildList_65 : ai_find (ai_tab mPatch_buildList) 65 = some (.iload 6, 67, 6, 0, 0, .null, []) := rfl
theorem iPatch_buildList_67 : ai_find (ai_tab mPatch_buildList) 67 = some (.invokevirtual 103, 70, 39, 3, 1, .ref 1, []) := rfl
theorem iPatch_buildList_70 : ai_find (ai_tab mPatch_buildList) 70 = some (.invokevirtual 107, 73, 72, 3, 1, .ref 4, []) := rfl
theorem iPatch_buildList_73 : ai_find (ai_tab mPatch_buildList) 73 = some (.iinc 6 1, 76, 6, 0, 0, .int (nI 1), []) := rfl
theorem iPatch_buildList_76 : ai_find (ai_tab mPatch_buildList) 76 = some (.goto (-27), 79, 49, 0, 0, .null, []) := rfl
theorem iPatch_buildList_79 : ai_find (ai_tab mPatch_buildList) 79 = some (.aload_n 0, 80, 0, 0, 0, .null, []) := rfl
theorem iPatch_buildList_80 : ai_find (ai_tab mPatch_buildList) 80 = some (.iload 5, 82, 5, 0, 0, .null, []) := rfl
theorem iPatch_buildList_82 : ai_find (ai_tab mPatch_buildList) 82 = some (.invokevirtual 52, 85, 35, 2, 1, .ref 1, []) := rfl
theorem iPatch_buildList_85 : ai_find (ai_tab mPatch_buildList) 85 = some (.istore 4, 87, 4, 0, 0, .null, []) := rfl
theorem iPatch_buildList_87 : ai_find (ai_tab mPatch_buildList) 87 = some (.iinc 5 1, 90, 5, 0, 0, .int (nI 1), []) := rfl
theorem iPatch_buildList_90 : ai_find (ai_tab mPatch_buildList) 90 = some (.goto (-78), 93, 12, 0, 0, .null, []) := rfl
theorem iPatch_buildList_93 : ai_find (ai_tab mPatch_buildList) 93 = some (.aload_n 2, 94, 2, 0, 0, .null, []) := rfl
theorem iPatch_buildList_94 : ai_find (ai_tab mPatch_buildList) 94 = some (.iload_n 1, 95, 1, 0, 0, .null, []) := rfl
theorem iPatch_buildList_95 : ai_find (ai_tab mPatch_buildList) 95 = some (.iload 4, 97, 4, 0, 0, .null, []) := rfl
theorem iPatch_buildList_97 : ai_find (ai_tab mPatch_buildList) 97 = some (.aload_n 2, 98, 2, 0, 0, .null, []) := rfl
theorem iPatch_buildList_98 : ai_find (ai_tab mPatch_buildList) 98 = some (.iload_n 1, 99, 1, 0, 0, .null, []) := rfl
theorem iPatch_buildList_99 : ai_find (ai_tab mPatch_buildList) 99 = some (.invokevirtual 21, 102, 85, 2, 1, .ref 4, []) := rfl
theorem iPatch_buildList_102 : ai_find (ai_tab mPatch_buildList) 102 = some (.aload_n 3, 103, 3, 0, 0, .null, []) := rfl
theorem iPatch_buildList_103 : ai_find (ai_tab mPatch_buildList) 103 = some (.invokestatic 99, 106, 102, 5, 0, .null, []) := rfl
theorem iPatch_buildList_106 : ai_find (ai_tab mPatch_buildList) 106 = some (.return_, 107, 0, 0, 0, .null, []) := rfl
theorem iPatch_contentFits_0 : ai_find (ai_tab mPatch_contentFits) 0 = some (.aload_n 0, 1, 0, 0, 0, .null, []) := rfl
theorem iPatch_contentFits_1 : ai_find (ai_tab mPatch_contentFits) 1 = some (.iload_n 1, 2, 1, 0, 0, .null, []) := rfl
theorem iPatch_contentFits_2 : ai_find (ai_tab mPatch_contentFits) 2 = some (.invokevirtual 55, 5, 48, 2, 1, .ref 1, []) := rfl
theorem iPatch_contentFits_5 : ai_find (ai_tab mPatch_contentFits) 5 = some (.iconst 2, 6, 0, 0, 0, .int (nI 2), []) := rfl
theorem iPatch_contentFits_6 : ai_find (ai_tab mPatch_contentFits) 6 = some (.if_icmp .ne 17, 9, 23, 0, 0, .null, []) := rfl
theorem iPatch_contentFits_9 : ai_find (ai_tab mPatch_contentFits) 9 = some (.aload_n 0, 10, 0, 0, 0, .null, []) := rfl
theorem iPatch_contentFits_10 : ai_find (ai_tab mPatch_contentFits) 10 = some (.aload_n 2, 11, 2, 0, 0, .null, []) := rfl
theorem iPatch_contentFits_11 : ai_find (ai_tab mPatch_contentFits) 11 = some (.aload_n 0, 12, 0, 0, 0, .null, []) := rfl
theorem iPatch_contentFits_12 : ai_find (ai_tab mPatch_contentFits) 12 = some (.iload_n 1, 13, 1, 0, 0, .null, []) := rfl
theorem iPatch_contentFits_13 : ai_find (ai_tab mPatch_contentFits) 13 = some (.invokevirtual 58, 16, 32, 2, 1, .ref 1, []) := rfl
theorem iPatch_contentFits_16 : ai_find (ai_tab mPatch_contentFits) 16 = some (.invokestatic 44, 19, 104, 3, 0, .null, []) := rfl
theorem iPatch_contentFits_19 : ai_find (ai_tab mPatch_contentFits) 19 = some (.iconst (-1), 20, 0, 0, 0, .int (-1), []) := rfl
theorem iPatch_contentFits_20 : ai_find (ai_tab mPatch_contentFits) 20 = some (.if_icmp .eq 7, 23, 27, 0, 0, .null, []) := rfl
theorem iPatch_contentFits_23 : ai_find (ai_tab mPatch_contentFits) 23 = some (.iconst 1, 24, 0, 0, 0, .int (nI 1), []) := rfl
theorem iPatch_contentFits_24 : ai_find (ai_tab mPatch_contentFits) 24 = some (.goto 4, 27, 28, 0, 0, .null, []) := rfl
theorem iPatch_contentFits_27 : ai_find (ai_tab mPatch_contentFits) 27 = some (.iconst 0, 28, 0, 0, 0, .int (nI 0), []) := rfl
theorem iPatch_contentFits_28 : ai_find (ai_tab mPatch_contentFits) 28 = some (.ireturn, 29, 1, 0, 0, .null, []) := rfl
theorem iPatch_copyItems_0 : ai_find (ai_tab mPatch_copyItems) 0 = some (.iload_n 2, 1, 2, 0, 0, .null, []) := rfl
theorem iPatch_copyItems_1 : ai_find (ai_tab mPatch_copyItems) 1 = some (.istore 5, 3, 5, 0, 0, .null, []) := rfl
theorem iPatch_copyItems_3 : ai_find (ai_tab mPatch_copyItems) 3 = some (.iload 5, 5, 5, 0, 0, .null, []) := rfl
theorem iPatch_copyItems_5 : ai_find (ai_tab mPatch_copyItems) 5 = some (.iload_n 3, 6, 3, 0, 0, .null, []) := rfl
theorem iPatch_copyItems_6 : ai_find (ai_tab mPatch_copyItems) 6 = some (.if_icmp .ge 22, 9, 28, 0, 0, .null, []) := rfl
theorem iPatch_copyItems_9 : ai_find (ai_tab mPatch_copyItems) 9 = some (.aload 4, 11, 4, 0, 0, .null, []) := rfl
theorem iPatch_copyItems_11 : ai_find (ai_tab mPatch_copyItems) 11 = some (.iload_n 1, 12, 1, 0, 0, .null, []) := rfl
theorem iPatch_copyItems_12 : ai_find (ai_tab mPatch_copyItems) 12 = some (.aload_n 0, 13, 0, 0, 0, .null, []) := rfl
theorem iPatch_copyItems_13 : ai_find (ai_tab mPatch_copyItems) 13 = some (.iload_n 1, 14, 1, 0, 0, .null, []) := rfl
theorem iPatch_copyItems_14 : ai_find (ai_tab mPatch_copyItems) 14 = some (.iload 5, 16, 5, 0, 0, .null, []) := rfl
theorem iPatch_copyItems_16 : ai_find (ai_tab mPatch_copyItems) 16 = some (.invokevirtual 110, 19, 84, 3, 1, .ref 4, []) := rfl
theorem iPatch_copyItems_19 : ai_find (ai_tab mPatch_copyItems) 19 = some (.invokevirtual 107, 22, 72, 3, 1, .ref 4, []) := rfl
theorem iPatch_copyItems_22 : ai_find (ai_tab mPatch_copyItems) 22 = some (.iinc 5 1, 25, 5, 0, 0, .int (nI 1), []) := rfl
theorem iPatch_copyItems_25 : ai_find (ai_tab mPatch_copyItems) 25 = some (.goto (-22), 28, 3, 0, 0, .null, []) := rfl
theorem iPatch_copyItems_28 : ai_find (ai_tab mPatch_copyItems) 28 = some (.return_, 29, 0, 0, 0, .null, []) := rfl
theorem iPatch_fits_0 : ai_find (ai_tab mPatch_fits) 0 = some (.iconst 0, 1, 0, 0, 0, .int (nI 0), []) := rfl
theorem iPatch_fits_1 : ai_find (ai_tab mPatch_fits) 1 = some (.istore_n 3, 2, 3, 0, 0, .null, []) := rfl
theorem iPatch_fits_2 : ai_find (ai_tab mPatch_fits) 2 = some (.iload_n 3, 3, 3, 0, 0, .null, []) := rfl
theorem iPatch_fits_3 : ai_find (ai_tab mPatch_fits) 3 = some (.aload_n 0, 4, 0, 0, 0, .null, []) := rfl
theorem iPatch_fits_4 : ai_find (ai_tab mPatch_fits) 4 = some (.invokevirtual 9, 7, 46, 1, 1, .ref 1, []) := rfl
theorem iPatch_fits_7 : ai_find (ai_tab mPatch_fits) 7 = some (.if_icmp .ge 21, 10, 28, 0, 0, .null, []) := rfl
theorem iPatch_fits_10 : ai_find (ai_tab mPatch_fits) 10 = some (.aload_n 0, 11, 0, 0, 0, .null, []) := rfl
theorem iPatch_fits_11 : ai_find (ai_tab mPatch_fits) 11 = some (.iload_n 3, 12, 3, 0, 0, .null, []) := rfl
theorem iPatch_fits_12 : ai_find (ai_tab mPatch_fits) 12 = some (.aload_n 1, 13, 1, 0, 0, .null, []) := rfl
theorem iPatch_fits_13 : ai_find (ai_tab mPatch_fits) 13 = some (.aload_n 2, 14, 2, 0, 0, .null, []) := rfl
theorem iPatch_fits_14 : ai_find (ai_tab mPatch_fits) 14 = some (.invokestatic 15, 17, 106, 4, 0, .null, []) := rfl
theorem iPatch_fits_17 : ai_find (ai_tab mPatch_fits) 17 = some (.ifCond .ne 5, 20, 22, 0, 0, .null, []) := rfl
theorem iPatch_fits_20 : ai_find (ai_tab mPatch_fits) 20 = some (.iconst 0, 21, 0, 0, 0, .int (nI 0), []) := rfl
theorem iPatch_fits_21 : ai_find (ai_tab mPatch_fits) 21 = some (.ireturn, 22, 1, 0, 0, .null, []) := rfl
theorem iPatch_fits_22 : ai_find (ai_tab mPatch_fits) 22 = some (.iinc 3 1, 25, 3, 0, 0, .int (nI 1), []) := rfl
theorem iPatch_fits_25 : ai_find (ai_tab mPatch_fits) 25 = some (.goto (-23), 28, 2, 0, 0, .null, []) := rfl
theorem iPatch_fits_28 : ai_find (ai_tab mPatch_fits) 28 = some (.iconst 0, 29, 0, 0, 0, .int (nI 0), []) := rfl
theorem iPatch_fits_29 : ai_find (ai_tab mPatch_fits) 29 = some (.istore_n 3, 30, 3, 0, 0, .null, []) := rfl
theorem iPatch_fits_30 : ai_find (ai_tab mPatch_fits) 30 = some (.iload_n 3, 31, 3, 0, 0, .null, []) := rfl
theorem iPatch_fits_31 : ai_find (ai_tab mPatch_fits) 31 = some (.bipush 16, 33, 0, 0, 0, .int (nI 16), []) := rfl
theorem iPatch_fits_33 : ai_find (ai_tab mPatch_fits) 33 = some (.if_icmp .ge 27, 36, 60, 0, 0, .null, []) := rfl
theorem iPatch_fits_36 : ai_find (ai_tab mPatch_fits) 36 = some (.aload_n 1, 37, 1, 0, 0, .null, []) := rfl
theorem iPatch_fits_37 : ai_find (ai_tab mPatch_fits) 37 = some (.iload_n 3, 38, 3, 0, 0, .null, []) := rfl
theorem iPatch_fits_38 : ai_find (ai_tab mPatch_fits) 38 = some (.invokevirtual 21, 41, 85, 2, 1, .ref 4, []) := rfl
theorem iPatch_fits_41 : ai_find (ai_tab mPatch_fits) 41 = some (.aload_n 0, 42, 0, 0, 0, .null, []) := rfl
theorem iPatch_fits_42 : ai_find (ai_tab mPatch_fits) 42 = some (.iload_n 3, 43, 3, 0, 0, .null, []) := rfl
theorem iPatch_fits_43 : ai_find (ai_tab mPatch_fits) 43 = some (.invokestatic 27, 46, 105, 2, 0, .null, []) := rfl
theorem iPatch_fits_46 : ai_find (ai_tab mPatch_fits) 46 = some (.iadd, 47, 0, 0, 0, .null, []) := rfl
theorem iPatch_fits_47 : ai_find (ai_tab mPatch_fits) 47 = some (.bipush 6, 49, 0, 0, 0, .int (nI 6), []) := rfl
theorem iPatch_fits_49 : ai_find (ai_tab mPatch_fits) 49 = some (.if_icmp .le 5, 52, 54, 0, 0, .null, []) := rfl
theorem iPatch_fits_52 : ai_find (ai_tab mPatch_fits) 52 = some (.iconst 0, 53, 0, 0, 0, .int (nI 0), []) := rfl
theorem iPatch_fits_53 : ai_find (ai_tab mPatch_fits) 53 = some (.ireturn, 54, 1, 0, 0, .null, []) := rfl
theorem iPatch_fits_54 : ai_find (ai_tab mPatch_fits) 54 = some (.iinc 3 1, 57, 3, 0, 0, .int (nI 1), []) := rfl
theorem iPatch_fits_57 : ai_find (ai_tab mPatch_fits) 57 = some (.goto (-27), 60, 30, 0, 0, .null, []) := rfl
theorem iPatch_fits_60 : ai_find (ai_tab mPatch_fits) 60 = some (.iconst 1, 61, 0, 0, 0, .int (nI 1), []) := rfl
theorem iPatch_fits_61 : ai_find (ai_tab mPatch_fits) 61 = some (.ireturn, 62, 1, 0, 0, .null, []) := rfl
theorem iPatch_formThen_0 : ai_find (ai_tab mPatch_formThen) 0 = some (.aload_n 1, 1, 1, 0, 0, .null, []) := rfl
theorem iPatch_formThen_1 : ai_find (ai_tab mPatch_formThen) 1 = some (.iload_n 2, 2, 2, 0, 0, .null, []) := rfl
theorem iPatch_formThen_2 : ai_find (ai_tab mPatch_formThen) 2 = some (.invokevirtual 37, 5, 80, 2, 1, .ref 4, []) := rfl
theorem iPatch_formThen_5 : ai_find (ai_tab mPatch_formThen) 5 = some (.ifCond .eq 11, 8, 16, 0, 0, .null, []) := rfl
theorem iPatch_formThen_8 : ai_find (ai_tab mPatch_formThen) 8 = some (.aload_n 1, 9, 1, 0, 0, .null, []) := rfl
theorem iPatch_formThen_9 : ai_find (ai_tab mPatch_formThen) 9 = some (.iload_n 2, 10, 2, 0, 0, .null, []) := rfl
theorem iPatch_formThen_10 : ai_find (ai_tab mPatch_formThen) 10 = some (.invokevirtual 61, 13, 79, 2, 1, .ref 4, []) := rfl
theorem iPatch_formThen_13 : ai_find (ai_tab mPatch_formThen) 13 = some (.goto 8, 16, 21, 0, 0, .null, []) := rfl
theorem iPatch_formThen_16 : ai_find (ai_tab mPatch_formThen) 16 = some (.aload_n 0, 17, 0, 0, 0, .null, []) := rfl
theorem iPatch_formThen_17 : ai_find (ai_tab mPatch_formThen) 17 = some (.iload_n 2, 18, 2, 0, 0, .null, []) := rfl
theorem iPatch_formThen_18 : ai_find (ai_tab mPatch_formThen) 18 = some (.invokevirtual 64, 21, 33, 2, 1, .ref 1, []) := rfl
theorem iPatch_formThen_21 : ai_find (ai_tab mPatch_formThen) 21 = some (.ireturn, 22, 0, 0, 0, .null, []) := rfl
theorem iPatch_growth_0 : ai_find (ai_tab mPatch_growth) 0 = some (.iconst 0, 1, 0, 0, 0, .int (nI 0), []) := rfl
theorem iPatch_growth_1 : ai_find (ai_tab mPatch_growth) 1 = some (.istore_n 2, 2, 2, 0, 0, .null, []) := rfl
theorem iPatch_growth_2 : ai_find (ai_tab mPatch_growth) 2 = some (.iconst 0, 3, 0, 0, 0, .int (nI 0), []) := rfl
theorem iPatch_growth_3 : ai_find (ai_tab mPatch_growth) 3 = some (.istore_n 3, 4, 3, 0, 0, .null, []) := rfl
theorem iPatch_growth_4 : ai_find (ai_tab mPatch_growth) 4 = some (.iload_n 3, 5, 3, 0, 0, .null, []) := rfl
theorem iPatch_growth_5 : ai_find (ai_tab mPatch_growth) 5 = some (.aload_n 0, 6, 0, 0, 0, .null, []) := rfl
theorem iPatch_growth_6 : ai_find (ai_tab mPatch_growth) 6 = some (.invokevirtual 9, 9, 46, 1, 1, .ref 1, []) := rfl
theorem iPatch_growth_9 : ai_find (ai_tab mPatch_growth) 9 = some (.if_icmp .ge 33, 12, 42, 0, 0, .null, []) := rfl
theorem iPatch_growth_12 : ai_find (ai_tab mPatch_growth) 12 = some (.aload_n 0, 13, 0, 0, 0, .null, []) := rfl
theorem iPatch_growth_13 : ai_find (ai_tab mPatch_growth) 13 = some (.iload_n 3, 14, 3, 0, 0, .null, []) := rfl
theorem iPatch_growth_14 : ai_find (ai_tab mPatch_growth) 14 = some (.iconst 3, 15, 0, 0, 0, .int (nI 3), []) := rfl
theorem iPatch_growth_15 : ai_find (ai_tab mPatch_growth) 15 = some (.iload_n 1, 16, 1, 0, 0, .null, []) := rfl
theorem iPatch_growth_16 : ai_find (ai_tab mPatch_growth) 16 = some (.invokevirtual 67, 19, 41, 4, 1, .ref 1, []) := rfl
theorem iPatch_growth_19 : ai_find (ai_tab mPatch_growth) 19 = some (.ifCond .eq 17, 22, 36, 0, 0, .null, []) := rfl
theorem iPatch_growth_22 : ai_find (ai_tab mPatch_growth) 22 = some (.iload_n 2, 23, 2, 0, 0, .null, []) := rfl
theorem iPatch_growth_23 : ai_find (ai_tab mPatch_growth) 23 = some (.aload_n 0, 24, 0, 0, 0, .null, []) := rfl
theorem iPatch_growth_24 : ai_find (ai_tab mPatch_growth) 24 = some (.iload_n 3, 25, 3, 0, 0, .null, []) := rfl
theorem iPatch_growth_25 : ai_find (ai_tab mPatch_growth) 25 = some (.invokevirtual 71, 28, 40, 2, 1, .ref 1, []) := rfl
theorem iPatch_growth_28 : ai_find (ai_tab mPatch_growth) 28 = some (.aload_n 0, 29, 0, 0, 0, .null, []) := rfl
theorem iPatch_growth_29 : ai_find (ai_tab mPatch_growth) 29 = some (.iload_n 3, 30, 3, 0, 0, .null, []) := rfl
theorem iPatch_growth_30 : ai_find (ai_tab mPatch_growth) 30 = some (.invokevirtual 74, 33, 34, 2, 1, .ref 1, []) := rfl
theorem iPatch_growth_33 : ai_find (ai_tab mPatch_growth) 33 = some (.isub, 34, 0, 0, 0, .null, []) := rfl
theorem iPatch_growth_34 : ai_find (ai_tab mPatch_growth) 34 = some (.iadd, 35, 0, 0, 0, .null, []) := rfl
theorem iPatch_growth_35 : ai_find (ai_tab mPatch_growth) 35 = some (.istore_n 2, 36, 2, 0, 0, .null, []) := rfl
theorem iPatch_growth_36 : ai_find (ai_tab mPatch_growth) 36 = some (.iinc 3 1, 39, 3, 0, 0, .int (nI 1), []) := rfl
theorem iPatch_growth_39 : ai_find (ai_tab mPatch_growth) 39 = some (.goto (-35), 42, 4, 0, 0, .null, []) := rfl
theorem iPatch_growth_42 : ai_find (ai_tab mPatch_growth) 42 = some (.iload_n 2, 43, 2, 0, 0, .null, []) := rfl
theorem iPatch_growth_43 : ai_find (ai_tab mPatch_growth) 43 = some (.ireturn, 44, 0, 0, 0, .null, []) := rfl
theorem iPatch_operationFits_0 : ai_find (ai_tab mPatch_operationFits) 0 = some (.aload_n 0, 1, 0, 0, 0, .null, []) := rfl
theorem iPatch_operationFits_1 : ai_find (ai_tab mPatch_operationFits) 1 = some (.iload_n 1, 2, 1, 0, 0, .null, []) := rfl
theorem iPatch_operationFits_2 : ai_find (ai_tab mPatch_operationFits) 2 = some (.invokevirtual 31, 5, 43, 2, 1, .ref 1, []) := rfl
theorem iPatch_operationFits_5 : ai_find (ai_tab mPatch_operationFits) 5 = some (.istore 4, 7, 4, 0, 0, .null, []) := rfl
theorem iPatch_operationFits_7 : ai_find (ai_tab mPatch_operationFits) 7 = some (.aload_n 0, 8, 0, 0, 0, .null, []) := rfl
theorem iPatch_operationFits_8 : ai_find (ai_tab mPatch_operationFits) 8 = some (.iload_n 1, 9, 1, 0, 0, .null, []) := rfl
theorem iPatch_operationFits_9 : ai_find (ai_tab mPatch_operationFits) 9 = some (.invokevirtual 34, 12, 31, 2, 1, .ref 1, []) := rfl
theorem iPatch_operationFits_12 : ai_find (ai_tab mPatch_operationFits) 12 = some (.lookupswitch 80 #[(1, 28), (2, 55)], 40, 92, 0, 0, .null, [(nI 1, 40), (nI 2, 67)]) := rfl
theorem iPatch_operationFits_40 : ai_find (ai_tab mPatch_operationFits) 40 = some (.aload_n 2, 41, 2, 0, 0, .null, []) := rfl
theorem iPatch_operationFits_41 : ai_find (ai_tab mPatch_operationFits) 41 = some (.iload 4, 43, 4, 0, 0, .null, []) := rfl
theorem iPatch_operationFits_43 : ai_find (ai_tab mPatch_operationFits) 43 = some (.invokevirtual 37, 46, 80, 2, 1, .ref 4, []) := rfl
theorem iPatch_operationFits_46 : ai_find (ai_tab mPatch_operationFits) 46 = some (.ifCond .ne 19, 49, 65, 0, 0, .null, []) := rfl
theorem iPatch_operationFits_49 : ai_find (ai_tab mPatch_operationFits) 49 = some (.aload_n 3, 50, 3, 0, 0, .null, []) := rfl
theorem iPatch_operationFits_50 : ai_find (ai_tab mPatch_operationFits) 50 = some (.iload 4, 52, 4, 0, 0, .null, []) := rfl
theorem iPatch_operationFits_52 : ai_find (ai_tab mPatch_operationFits) 52 = some (.iaload, 53, 0, 0, 0, .null, []) := rfl
theorem iPatch_operationFits_53 : ai_find (ai_tab mPatch_operationFits) 53 = some (.aload_n 0, 54, 0, 0, 0, .null, []) := rfl
theorem iPatch_operationFits_54 : ai_find (ai_tab mPatch_operationFits) 54 = some (.iload_n 1, 55, 1, 0, 0, .null, []) := rfl
theorem iPatch_operationFits_55 : ai_find (ai_tab mPatch_operationFits) 55 = some (.invokevirtual 41, 58, 44, 2, 1, .ref 1, []) := rfl
theorem iPatch_operationFits_58 : ai_find (ai_tab mPatch_operationFits) 58 = some (.if_icmp .ne 7, 61, 65, 0, 0, .null, []) := rfl
theorem iPatch_operationFits_61 : ai_find (ai_tab mPatch_operationFits) 61 = some (.iconst 1, 62, 0, 0, 0, .int (nI 1), []) := rfl
theorem iPatch_operationFits_62 : ai_find (ai_tab mPatch_operationFits) 62 = some (.goto 4, 65, 66, 0, 0, .null, []) := rfl
theorem iPatch_operationFits_65 : ai_find (ai_tab mPatch_operationFits) 65 = some (.iconst 0, 66, 0, 0, 0, .int (nI 0), []) := rfl
theorem iPatch_operationFits_66 : ai_find (ai_tab mPatch_operationFits) 66 = some (.ireturn, 67, 1, 0, 0, .null, []) := rfl
theorem iPatch_operationFits_67 : ai_find (ai_tab mPatch_operationFits) 67 = some (.aload_n 0, 68, 0, 0, 0, .null, []) := rfl
theorem iPatch_operationFits_68 : ai_find (ai_tab mPatch_operationFits) 68 = some (.aload_n 2, 69, 2, 0, 0, .null, []) := rfl
theorem iPatch_operationFits_69 : ai_find (ai_tab mPatch_operationFits) 69 = some (.iload 4, 71, 4, 0, 0, .null, []) := rfl
theorem iPatch_operationFits_71 : ai_find (ai_tab mPatch_operationFits) 71 = some (.invokestatic 44, 74, 104, 3, 0, .null, []) := rfl
theorem iPatch_operationFits_74 : ai_find (ai_tab mPatch_operationFits) 74 = some (.ifCond .ne 16, 77, 90, 0, 0, .null, []) := rfl
theorem iPatch_operationFits_77 : ai_find (ai_tab mPatch_operationFits) 77 = some (.aload_n 0, 78, 0, 0, 0, .null, []) := rfl
theorem iPatch_operationFits_78 : ai_find (ai_tab mPatch_operationFits) 78 = some (.iload_n 1, 79, 1, 0, 0, .null, []) := rfl
theorem iPatch_operationFits_79 : ai_find (ai_tab mPatch_operationFits) 79 = some (.aload_n 2, 80, 2, 0, 0, .null, []) := rfl
theorem iPatch_operationFits_80 : ai_find (ai_tab mPatch_operationFits) 80 = some (.invokestatic 48, 83, 101, 3, 0, .null, []) := rfl
theorem iPatch_operationFits_83 : ai_find (ai_tab mPatch_operationFits) 83 = some (.ifCond .eq 7, 86, 90, 0, 0, .null, []) := rfl
theorem iPatch_operationFits_86 : ai_find (ai_tab mPatch_operationFits) 86 = some (.iconst 1, 87, 0, 0, 0, .int (nI 1), []) := rfl
theorem iPatch_operationFits_87 : ai_find (ai_tab mPatch_operationFits) 87 = some (.goto 4, 90, 91, 0, 0, .null, []) := rfl
theorem iPatch_operationFits_90 : ai_find (ai_tab mPatch_operationFits) 90 = some (.iconst 0, 91, 0, 0, 0, .int (nI 0), []) := rfl
theorem iPatch_operationFits_91 : ai_find (ai_tab mPatch_operationFits) 91 = some (.ireturn, 92, 1, 0, 0, .null, []) := rfl
theorem iPatch_operationFits_92 : ai_find (ai_tab mPatch_operationFits) 92 = some (.aload_n 0, 93, 0, 0, 0, .null, []) := rfl
theorem iPatch_operationFits_93 : ai_find (ai_tab mPatch_operationFits) 93 = some (.aload_n 2, 94, 2, 0, 0, .null, []) := rfl
theorem iPatch_operationFits_94 : ai_find (ai_tab mPatch_operationFits) 94 = some (.iload 4, 96, 4, 0, 0, .null, []) := rfl
theorem iPatch_operationFits_96 : ai_find (ai_tab mPatch_operationFits) 96 = some (.invokestatic 44, 99, 104, 3, 0, .null, []) := rfl
theorem iPatch_operationFits_99 : ai_find (ai_tab mPatch_operationFits) 99 = some (.iconst 1, 100, 0, 0, 0, .int (nI 1), []) := rfl
theorem iPatch_operationFits_100 : ai_find (ai_tab mPatch_operationFits) 100 = some (.if_icmp .ne 21, 103, 121, 0, 0, .null, []) := rfl
theorem iPatch_operationFits_103 : ai_find (ai_tab mPatch_operationFits) 103 = some (.aload_n 0, 104, 0, 0, 0, .null, []) := rfl
theorem iPatch_operationFits_104 : ai_find (ai_tab mPatch_operationFits) 104 = some (.iload_n 1, 105, 1, 0, 0, .null, []) := rfl
theorem iPatch_operationFits_105 : ai_find (ai_tab mPatch_operationFits) 105 = some (.invokevirtual 52, 108, 35, 2, 1, .ref 1, []) := rfl
theorem iPatch_operationFits_108 : ai_find (ai_tab mPatch_operationFits) 108 = some (.aload_n 2, 109, 2, 0, 0, .null, []) := rfl
theorem iPatch_operationFits_109 : ai_find (ai_tab mPatch_operationFits) 109 = some (.iload 4, 111, 4, 0, 0, .null, []) := rfl
theorem iPatch_operationFits_111 : ai_find (ai_tab mPatch_operationFits) 111 = some (.invokevirtual 21, 114, 85, 2, 1, .ref 4, []) := rfl
theorem iPatch_operationFits_114 : ai_find (ai_tab mPatch_operationFits) 114 = some (.if_icmp .gt 7, 117, 121, 0, 0, .null, []) := rfl
theorem iPatch_operationFits_117 : ai_find (ai_tab mPatch_operationFits) 117 = some (.iconst 1, 118, 0, 0, 0, .int (nI 1), []) := rfl
theorem iPatch_operationFits_118 : ai_find (ai_tab mPatch_operationFits) 118 = some (.goto 4, 121, 122, 0, 0, .null, []) := rfl
theorem iPatch_operationFits_121 : ai_find (ai_tab mPatch_operationFits) 121 = some (.iconst 0, 122, 0, 0, 0, .int (nI 0), []) := rfl
theorem iPatch_operationFits_122 : ai_find (ai_tab mPatch_operationFits) 122 = some (.ireturn, 123, 1, 0, 0, .null, []) := rfl
theorem iReader_init_0 : ai_find (ai_tab mReader_init) 0 = some (.aload_n 0, 1, 0, 0, 0, .null, []) := rfl
theorem iReader_init_1 : ai_find (ai_tab mReader_init) 1 = some (.invokespecial 3, 4, 0, 1, 3, .null, []) := rfl
theorem iReader_init_4 : ai_find (ai_tab mReader_init) 4 = some (.aload_n 0, 5, 0, 0, 0, .null, []) := rfl
theorem iReader_init_5 : ai_find (ai_tab mReader_init) 5 = some (.aload_n 1, 6, 1, 0, 0, .null, []) := rfl
theorem iReader_init_6 : ai_find (ai_tab mReader_init) 6 = some (.putfield 9, 9, 6, 0, 3, .null, []) := rfl
theorem iReader_init_9 : ai_find (ai_tab mReader_init) 9 = some (.return_, 10, 0, 0, 0, .null, []) := rfl
theorem iReader_endsRightly_0 : ai_find (ai_tab mReader_endsRightly) 0 = some (.aload_n 0, 1, 0, 0, 0, .null, []) := rfl
theorem iReader_endsRightly_1 : ai_find (ai_tab mReader_endsRightly) 1 = some (.getfield 9, 4, 6, 0, 0, .null, []) := rfl
theorem iReader_endsRightly_4 : ai_find (ai_tab mReader_endsRightly) 4 = some (.aload_n 0, 5, 0, 0, 0, .null, []) := rfl
theorem iReader_endsRightly_5 : ai_find (ai_tab mReader_endsRightly) 5 = some (.getfield 37, 8, 6, 1, 0, .null, []) := rfl
theorem iReader_endsRightly_8 : ai_find (ai_tab mReader_endsRightly) 8 = some (.invokevirtual 44, 11, 65, 2, 1, .ref 3, []) := rfl
theorem iReader_endsRightly_11 : ai_find (ai_tab mReader_endsRightly) 11 = some (.istore_n 1, 12, 1, 0, 0, .null, []) := rfl
theorem iReader_endsRightly_12 : ai_find (ai_tab mReader_endsRightly) 12 = some (.aload_n 0, 13, 0, 0, 0, .null, []) := rfl
theorem iReader_endsRightly_13 : ai_find (ai_tab mReader_endsRightly) 13 = some (.invokevirtual 20, 16, 109, 1, 1, .ref 6, []) := rfl
theorem iReader_endsRightly_16 : ai_find (ai_tab mReader_endsRightly) 16 = some (.iload_n 1, 17, 1, 0, 0, .null, []) := rfl
theorem iReader_endsRightly_17 : ai_find (ai_tab mReader_endsRightly) 17 = some (.if_icmp .ne 21, 20, 38, 0, 0, .null, []) := rfl
theorem iReader_endsRightly_20 : ai_find (ai_tab mReader_endsRightly) 20 = some (.aload_n 0, 21, 0, 0, 0, .null, []) := rfl
theorem iReader_endsRightly_21 : ai_find (ai_tab mReader_endsRightly) 21 = some (.getfield 37, 24, 6, 1, 0, .null, []) := rfl
theorem iReader_endsRightly_24 : ai_find (ai_tab mReader_endsRightly) 24 = some (.aload_n 0, 25, 0, 0, 0, .null, []) := rfl
theorem iReader_endsRightly_25 : ai_find (ai_tab mReader_endsRightly) 25 = some (.getfield 9, 28, 6, 0, 0, .null, []) := rfl
theorem iReader_endsRightly_28 : ai_find (ai_tab mReader_endsRightly) 28 = some (.invokevirtual 47, 31, 64, 1, 1, .ref 3, []) := rfl
theorem iReader_endsRightly_31 : ai_find (ai_tab mReader_endsRightly) 31 = some (.if_icmp .ne 7, 34, 38, 0, 0, .null, []) := rfl
theorem iReader_endsRightly_34 : ai_find (ai_tab mReader_endsRightly) 34 = some (.iconst 1, 35, 0, 0, 0, .int (nI 1), []) := rfl
theorem iReader_endsRightly_35 : ai_find (ai_tab mReader_endsRightly) 35 = some (.goto 4, 38, 39, 0, 0, .null, []) := rfl
theorem iReader_endsRightly_38 : ai_find (ai_tab mReader_endsRightly) 38 = some (.iconst 0, 39, 0, 0, 0, .int (nI 0), []) := rfl
theorem iReader_endsRightly_39 : ai_find (ai_tab mReader_endsRightly) 39 = some (.ireturn, 40, 1, 0, 0, .null, []) := rfl
theorem iReader_next_0 : ai_find (ai_tab mReader_next) 0 = some (.aload_n 0, 1, 0, 0, 0, .null, []) := rfl
theorem iReader_next_1 : ai_find (ai_tab mReader_next) 1 = some (.getfield 9, 4, 6, 0, 0, .null, []) := rfl
theorem iReader_next_4 : ai_find (ai_tab mReader_next) 4 = some (.aload_n 0, 5, 0, 0, 0, .null, []) := rfl
theorem iReader_next_5 : ai_find (ai_tab mReader_next) 5 = some (.getfield 37, 8, 6, 1, 0, .null, []) := rfl
theorem iReader_next_8 : ai_find (ai_tab mReader_next) 8 = some (.invokevirtual 41, 11, 61, 2, 1, .ref 3, []) := rfl
theorem iReader_next_11 : ai_find (ai_tab mReader_next) 11 = some (.istore_n 1, 12, 1, 0, 0, .null, []) := rfl
theorem iReader_next_12 : ai_find (ai_tab mReader_next) 12 = some (.aload_n 0, 13, 0, 0, 0, .null, []) := rfl
theorem iReader_next_13 : ai_find (ai_tab mReader_next) 13 = some (.dup, 14, 0, 0, 0, .null, []) := rfl
theorem iReader_next_14 : ai_find (ai_tab mReader_next) 14 = some (.getfield 37, 17, 6, 1, 0, .null, []) := rfl
theorem iReader_next_17 : ai_find (ai_tab mReader_next) 17 = some (.iconst 1, 18, 0, 0, 0, .int (nI 1), []) := rfl
theorem iReader_next_18 : ai_find (ai_tab mReader_next) 18 = some (.iadd, 19, 0, 0, 0, .null, []) := rfl
theorem iReader_next_19 : ai_find (ai_tab mReader_next) 19 = some (.putfield 37, 22, 6, 1, 0, .null, []) := rfl
theorem iReader_next_22 : ai_find (ai_tab mReader_next) 22 = some (.iload_n 1, 23, 1, 0, 0, .null, []) := rfl
theorem iReader_next_23 : ai_find (ai_tab mReader_next) 23 = some (.ireturn, 24, 0, 0, 0, .null, []) := rfl
theorem iReader_read_0 : ai_find (ai_tab mReader_read) 0 = some (.aload_n 1, 1, 1, 0, 0, .null, []) := rfl
theorem iReader_read_1 : ai_find (ai_tab mReader_read) 1 = some (.invokevirtual 15, 4, 30, 1, 1, .ref 1, []) := rfl
theorem iReader_read_4 : ai_find (ai_tab mReader_read) 4 = some (.aload_n 0, 5, 0, 0, 0, .null, []) := rfl
theorem iReader_read_5 : ai_find (ai_tab mReader_read) 5 = some (.invokevirtual 20, 8, 109, 1, 1, .ref 6, []) := rfl
theorem iReader_read_8 : ai_find (ai_tab mReader_read) 8 = some (.bipush 68, 10, 0, 0, 0, .int (nI 68), []) := rfl
theorem iReader_read_10 : ai_find (ai_tab mReader_read) 10 = some (.if_icmp .eq 5, 13, 15, 0, 0, .null, []) := rfl
theorem iReader_read_13 : ai_find (ai_tab mReader_read) 13 = some (.iconst 0, 14, 0, 0, 0, .int (nI 0), []) := rfl
theorem iReader_read_14 : ai_find (ai_tab mReader_read) 14 = some (.ireturn, 15, 1, 0, 0, .null, []) := rfl
theorem iReader_read_15 : ai_find (ai_tab mReader_read) 15 = some (.iconst 0, 16, 0, 0, 0, .int (nI 0), []) := rfl
theorem iReader_read_16 : ai_find (ai_tab mReader_read) 16 = some (.istore_n 2, 17, 2, 0, 0, .null, []) := rfl
theorem iReader_read_17 : ai_find (ai_tab mReader_read) 17 = some (.iload_n 2, 18, 2, 0, 0, .null, []) := rfl
theorem iReader_read_18 : ai_find (ai_tab mReader_read) 18 = some (.bipush 127, 20, 0, 0, 0, .int (nI 127), []) := rfl
theorem iReader_read_20 : ai_find (ai_tab mReader_read) 20 = some (.if_icmp .gt 41, 23, 61, 0, 0, .null, []) := rfl
theorem iReader_read_23 : ai_find (ai_tab mReader_read) 23 = some (.aload_n 0, 24, 0, 0, 0, .null, []) := rfl
theorem iReader_read_24 : ai_find (ai_tab mReader_read) 24 = some (.invokevirtual 20, 27, 109, 1, 1, .ref 6, []) := rfl
theorem iReader_read_27 : ai_find (ai_tab mReader_read) 27 = some (.istore_n 3, 28, 3, 0, 0, .null, []) := rfl
theorem iReader_read_28 : ai_find (ai_tab mReader_read) 28 = some (.iload_n 3, 29, 3, 0, 0, .null, []) := rfl
theorem iReader_read_29 : ai_find (ai_tab mReader_read) 29 = some (.ifCond .ne 8, 32, 37, 0, 0, .null, []) := rfl
theorem iReader_read_32 : ai_find (ai_tab mReader_read) 32 = some (.aload_n 0, 33, 0, 0, 0, .null, []) := rfl
theorem iReader_read_33 : ai_find (ai_tab mReader_read) 33 = some (.invokevirtual 26, 36, 108, 1, 1, .ref 6, []) := rfl
theorem iReader_read_36 : ai_find (ai_tab mReader_read) 36 = some (.ireturn, 37, 1, 0, 0, .null, []) := rfl
theorem iReader_read_37 : ai_find (ai_tab mReader_read) 37 = some (.aload_n 0, 38, 0, 0, 0, .null, []) := rfl
theorem iReader_read_38 : ai_find (ai_tab mReader_read) 38 = some (.iload_n 3, 39, 3, 0, 0, .null, []) := rfl
theorem iReader_read_39 : ai_find (ai_tab mReader_read) 39 = some (.aload_n 1, 40, 1, 0, 0, .null, []) := rfl
theorem iReader_read_40 : ai_find (ai_tab mReader_read) 40 = some (.invokevirtual 30, 43, 112, 3, 1, .ref 6, []) := rfl
theorem iReader_read_43 : ai_find (ai_tab mReader_read) 43 = some (.ifCond .eq 10, 46, 53, 0, 0, .null, []) := rfl
theorem iReader_read_46 : ai_find (ai_tab mReader_read) 46 = some (.aload_n 1, 47, 1, 0, 0, .null, []) := rfl
theorem iReader_read_47 : ai_find (ai_tab mReader_read) 47 = some (.invokevirtual 34, 50, 36, 1, 1, .ref 1, []) := rfl
theorem iReader_read_50 : ai_find (ai_tab mReader_read) 50 = some (.ifCond .ne 5, 53, 55, 0, 0, .null, []) := rfl
theorem iReader_read_53 : ai_find (ai_tab mReader_read) 53 = some (.iconst 0, 54, 0, 0, 0, .int (nI 0), []) := rfl
theorem iReader_read_54 : ai_find (ai_tab mReader_read) 54 = some (.ireturn, 55, 1, 0, 0, .null, []) := rfl
theorem iReader_read_55 : ai_find (ai_tab mReader_read) 55 = some (.iinc 2 1, 58, 2, 0, 0, .int (nI 1), []) := rfl
theorem iReader_read_58 : ai_find (ai_tab mReader_read) 58 = some (.goto (-41), 61, 17, 0, 0, .null, []) := rfl
theorem iReader_read_61 : ai_find (ai_tab mReader_read) 61 = some (.iconst 0, 62, 0, 0, 0, .int (nI 0), []) := rfl
theorem iReader_read_62 : ai_find (ai_tab mReader_read) 62 = some (.ireturn, 63, 1, 0, 0, .null, []) := rfl
theorem iReader_readCreate_0 : ai_find (ai_tab mReader_readCreate) 0 = some (.aload_n 0, 1, 0, 0, 0, .null, []) := rfl
theorem iReader_readCreate_1 : ai_find (ai_tab mReader_readCreate) 1 = some (.invokevirtual 20, 4, 109, 1, 1, .ref 6, []) := rfl
theorem iReader_readCreate_4 : ai_find (ai_tab mReader_readCreate) 4 = some (.istore_n 3, 5, 3, 0, 0, .null, []) := rfl
theorem iReader_readCreate_5 : ai_find (ai_tab mReader_readCreate) 5 = some (.iload_n 1, 6, 1, 0, 0, .null, []) := rfl
theorem iReader_readCreate_6 : ai_find (ai_tab mReader_readCreate) 6 = some (.ifCond .eq 12, 9, 18, 0, 0, .null, []) := rfl
theorem iReader_readCreate_9 : ai_find (ai_tab mReader_readCreate) 9 = some (.iload_n 3, 10, 3, 0, 0, .null, []) := rfl
theorem iReader_readCreate_10 : ai_find (ai_tab mReader_readCreate) 10 = some (.ifCond .eq 10, 13, 20, 0, 0, .null, []) := rfl
theorem iReader_readCreate_13 : ai_find (ai_tab mReader_readCreate) 13 = some (.iload_n 3, 14, 3, 0, 0, .null, []) := rfl
theorem iReader_readCreate_14 : ai_find (ai_tab mReader_readCreate) 14 = some (.iconst 1, 15, 0, 0, 0, .int (nI 1), []) := rfl
theorem iReader_readCreate_15 : ai_find (ai_tab mReader_readCreate) 15 = some (.if_icmp .eq 5, 18, 20, 0, 0, .null, []) := rfl
theorem iReader_readCreate_18 : ai_find (ai_tab mReader_readCreate) 18 = some (.iconst 0, 19, 0, 0, 0, .int (nI 0), []) := rfl
theorem iReader_readCreate_19 : ai_find (ai_tab mReader_readCreate) 19 = some (.ireturn, 20, 1, 0, 0, .null, []) := rfl
theorem iReader_readCreate_20 : ai_find (ai_tab mReader_readCreate) 20 = some (.aload_n 2, 21, 2, 0, 0, .null, []) := rfl
theorem iReader_readCreate_21 : ai_find (ai_tab mReader_readCreate) 21 = some (.iload_n 1, 22, 1, 0, 0, .null, []) := rfl
theorem iReader_readCreate_22 : ai_find (ai_tab mReader_readCreate) 22 = some (.iload_n 3, 23, 3, 0, 0, .null, []) := rfl
theorem iReader_readCreate_23 : ai_find (ai_tab mReader_readCreate) 23 = some (.invokevirtual 59, 26, 24, 3, 1, .ref 1, []) := rfl
theorem iReader_readCreate_26 : ai_find (ai_tab mReader_readCreate) 26 = some (.iconst 1, 27, 0, 0, 0, .int (nI 1), []) := rfl
theorem iReader_readCreate_27 : ai_find (ai_tab mReader_readCreate) 27 = some (.ireturn, 28, 1, 0, 0, .null, []) := rfl
theorem iReader_readOperation_0 : ai_find (ai_tab mReader_readOperation) 0 = some (.aload_n 0, 1, 0, 0, 0, .null, []) := rfl
theorem iReader_readOperation_1 : ai_find (ai_tab mReader_readOperation) 1 = some (.invokevirtual 20, 4, 109, 1, 1, .ref 6, []) := rfl
theorem iReader_readOperation_4 : ai_find (ai_tab mReader_readOperation) 4 = some (.istore_n 3, 5, 3, 0, 0, .null, []) := rfl
theorem iReader_readOperation_5 : ai_find (ai_tab mReader_readOperation) 5 = some (.iload_n 3, 6, 3, 0, 0, .null, []) := rfl
theorem iReader_readOperation_6 : ai_find (ai_tab mReader_readOperation) 6 = some (.ifCond .lt 9, 9, 15, 0, 0, .null, []) := rfl
theorem iReader_readOperation_9 : ai_find (ai_tab mReader_readOperation) 9 = some (.iload_n 3, 10, 3, 0, 0, .null, []) := rfl
theorem iReader_readOperation_10 : ai_find (ai_tab mReader_readOperation) 10 = some (.bipush 16, 12, 0, 0, 0, .int (nI 16), []) := rfl
theorem iReader_readOperation_12 : ai_find (ai_tab mReader_readOperation) 12 = some (.if_icmp .lt 5, 15, 17, 0, 0, .null, []) := rfl
theorem iReader_readOperation_15 : ai_find (ai_tab mReader_readOperation) 15 = some (.iconst 0, 16, 0, 0, 0, .int (nI 0), []) := rfl
theorem iReader_readOperation_16 : ai_find (ai_tab mReader_readOperation) 16 = some (.ireturn, 17, 1, 0, 0, .null, []) := rfl
theorem iReader_readOperation_17 : ai_find (ai_tab mReader_readOperation) 17 = some (.iload_n 1, 18, 1, 0, 0, .null, []) := rfl
theorem iReader_readOperation_18 : ai_find (ai_tab mReader_readOperation) 18 = some (.tableswitch 47 1 3 #[26, 33, 40], 44, 65, 0, 0, .null, [(nI 1, 44), (nI 2, 51), (nI 3, 58)]) := rfl
theorem iReader_readOperation_44 : ai_find (ai_tab mReader_readOperation) 44 = some (.aload_n 0, 45, 0, 0, 0, .null, []) := rfl
theorem iReader_readOperation_45 : ai_find (ai_tab mReader_readOperation) 45 = some (.iload_n 3, 46, 3, 0, 0, .null, []) := rfl
theorem iReader_readOperation_46 : ai_find (ai_tab mReader_readOperation) 46 = some (.aload_n 2, 47, 2, 0, 0, .null, []) := rfl
theorem iReader_readOperation_47 : ai_find (ai_tab mReader_readOperation) 47 = some (.invokevirtual 50, 50, 111, 3, 1, .ref 6, []) := rfl
theorem iReader_readOperation_50 : ai_find (ai_tab mReader_readOperation) 50 = some (.ireturn, 51, 1, 0, 0, .null, []) := rfl
theorem iReader_readOperation_51 : ai_find (ai_tab mReader_readOperation) 51 = some (.aload_n 0, 52, 0, 0, 0, .null, []) := rfl
theorem iReader_readOperation_52 : ai_find (ai_tab mReader_readOperation) 52 = some (.iload_n 3, 53, 3, 0, 0, .null, []) := rfl
theorem iReader_readOperation_53 : ai_find (ai_tab mReader_readOperation) 53 = some (.aload_n 2, 54, 2, 0, 0, .null, []) := rfl
theorem iReader_readOperation_54 : ai_find (ai_tab mReader_readOperation) 54 = some (.invokevirtual 53, 57, 114, 3, 1, .ref 6, []) := rfl
theorem iReader_readOperation_57 : ai_find (ai_tab mReader_readOperation) 57 = some (.ireturn, 58, 1, 0, 0, .null, []) := rfl
theorem iReader_readOperation_58 : ai_find (ai_tab mReader_readOperation) 58 = some (.aload_n 0, 59, 0, 0, 0, .null, []) := rfl
theorem iReader_readOperation_59 : ai_find (ai_tab mReader_readOperation) 59 = some (.iload_n 3, 60, 3, 0, 0, .null, []) := rfl
theorem iReader_readOperation_60 : ai_find (ai_tab mReader_readOperation) 60 = some (.aload_n 2, 61, 2, 0, 0, .null, []) := rfl
theorem iReader_readOperation_61 : ai_find (ai_tab mReader_readOperation) 61 = some (.invokevirtual 56, 64, 115, 3, 1, .ref 6, []) := rfl
theorem iReader_readOperation_64 : ai_find (ai_tab mReader_readOperation) 64 = some (.ireturn, 65, 1, 0, 0, .null, []) := rfl
theorem iReader_readOperation_65 : ai_find (ai_tab mReader_readOperation) 65 = some (.iconst 0, 66, 0, 0, 0, .int (nI 0), []) := rfl
theorem iReader_readOperation_66 : ai_find (ai_tab mReader_readOperation) 66 = some (.ireturn, 67, 1, 0, 0, .null, []) := rfl
theorem iReader_readReference_0 : ai_find (ai_tab mReader_readReference) 0 = some (.aload_n 0, 1, 0, 0, 0, .null, []) := rfl
theorem iReader_readReference_1 : ai_find (ai_tab mReader_readReference) 1 = some (.invokevirtual 20, 4, 109, 1, 1, .ref 6, []) := rfl
theorem iReader_readReference_4 : ai_find (ai_tab mReader_readReference) 4 = some (.istore_n 1, 5, 1, 0, 0, .null, []) := rfl
theorem iReader_readReference_5 : ai_find (ai_tab mReader_readReference) 5 = some (.iload_n 1, 6, 1, 0, 0, .null, []) := rfl
theorem iReader_readReference_6 : ai_find (ai_tab mReader_readReference) 6 = some (.ifCond .lt 14, 9, 20, 0, 0, .null, []) := rfl
theorem iReader_readReference_9 : ai_find (ai_tab mReader_readReference) 9 = some (.iload_n 1, 10, 1, 0, 0, .null, []) := rfl
theorem iReader_readReference_10 : ai_find (ai_tab mReader_readReference) 10 = some (.bipush 16, 12, 0, 0, 0, .int (nI 16), []) := rfl
theorem iReader_readReference_12 : ai_find (ai_tab mReader_readReference) 12 = some (.if_icmp .ge 8, 15, 20, 0, 0, .null, []) := rfl
theorem iReader_readReference_15 : ai_find (ai_tab mReader_readReference) 15 = some (.iload_n 1, 16, 1, 0, 0, .null, []) := rfl
theorem iReader_readReference_16 : ai_find (ai_tab mReader_readReference) 16 = some (.i2l, 17, 0, 0, 0, .null, []) := rfl
theorem iReader_readReference_17 : ai_find (ai_tab mReader_readReference) 17 = some (.goto 6, 20, 23, 0, 0, .null, []) := rfl
theorem iReader_readReference_20 : ai_find (ai_tab mReader_readReference) 20 = some (.ldc2_w 70, 23, 0, 0, 0, .long 1099511627776, []) := rfl
theorem iReader_readReference_23 : ai_find (ai_tab mReader_readReference) 23 = some (.lreturn, 24, 0, 0, 0, .null, []) := rfl
theorem iReader_readSet_0 : ai_find (ai_tab mReader_readSet) 0 = some (.aload_n 0, 1, 0, 0, 0, .null, []) := rfl
theorem iReader_readSet_1 : ai_find (ai_tab mReader_readSet) 1 = some (.invokevirtual 20, 4, 109, 1, 1, .ref 6, []) := rfl
theorem iReader_readSet_4 : ai_find (ai_tab mReader_readSet) 4 = some (.istore_n 3, 5, 3, 0, 0, .null, []) := rfl
theorem iReader_readSet_5 : ai_find (ai_tab mReader_readSet) 5 = some (.aload_n 0, 6, 0, 0, 0, .null, []) := rfl
theorem iReader_readSet_6 : ai_find (ai_tab mReader_readSet) 6 = some (.invokevirtual 20, 9, 109, 1, 1, .ref 6, []) := rfl
theorem iReader_readSet_9 : ai_find (ai_tab mReader_readSet) 9 = some (.istore 4, 11, 4, 0, 0, .null, []) := rfl
theorem iReader_readSet_11 : ai_find (ai_tab mReader_readSet) 11 = some (.iload_n 3, 12, 3, 0, 0, .null, []) := rfl
theorem iReader_readSet_12 : ai_find (ai_tab mReader_readSet) 12 = some (.ifCond .lt 19, 15, 31, 0, 0, .null, []) := rfl
theorem iReader_readSet_15 : ai_find (ai_tab mReader_readSet) 15 = some (.iload_n 3, 16, 3, 0, 0, .null, []) := rfl
theorem iReader_readSet_16 : ai_find (ai_tab mReader_readSet) 16 = some (.iconst 3, 17, 0, 0, 0, .int (nI 3), []) := rfl
theorem iReader_readSet_17 : ai_find (ai_tab mReader_readSet) 17 = some (.if_icmp .ge 14, 20, 31, 0, 0, .null, []) := rfl
theorem iReader_readSet_20 : ai_find (ai_tab mReader_readSet) 20 = some (.iload 4, 22, 4, 0, 0, .null, []) := rfl
theorem iReader_readSet_22 : ai_find (ai_tab mReader_readSet) 22 = some (.ifCond .lt 9, 25, 31, 0, 0, .null, []) := rfl
theorem iReader_readSet_25 : ai_find (ai_tab mReader_readSet) 25 = some (.iload 4, 27, 4, 0, 0, .null, []) := rfl
theorem iReader_readSet_27 : ai_find (ai_tab mReader_readSet) 27 = some (.iconst 2, 28, 0, 0, 0, .int (nI 2), []) := rfl
theorem iReader_readSet_28 : ai_find (ai_tab mReader_readSet) 28 = some (.if_icmp .le 5, 31, 33, 0, 0, .null, []) := rfl
theorem iReader_readSet_31 : ai_find (ai_tab mReader_readSet) 31 = some (.iconst 0, 32, 0, 0, 0, .int (nI 0), []) := rfl
theorem iReader_readSet_32 : ai_find (ai_tab mReader_readSet) 32 = some (.ireturn, 33, 1, 0, 0, .null, []) := rfl
theorem iReader_readSet_33 : ai_find (ai_tab mReader_readSet) 33 = some (.iload 4, 35, 4, 0, 0, .null, []) := rfl
theorem iReader_readSet_35 : ai_find (ai_tab mReader_readSet) 35 = some (.ifCond .ne 7, 38, 42, 0, 0, .null, []) := rfl
theorem iReader_readSet_38 : ai_find (ai_tab mReader_readSet) 38 = some (.lconst 0, 39, 0, 0, 0, .long 0, []) := rfl
theorem iReader_readSet_39 : ai_find (ai_tab mReader_readSet) 39 = some (.goto 20, 42, 59, 0, 0, .null, []) := rfl
theorem iReader_readSet_42 : ai_find (ai_tab mReader_readSet) 42 = some (.iload 4, 44, 4, 0, 0, .null, []) := rfl
theorem iReader_readSet_44 : ai_find (ai_tab mReader_readSet) 44 = some (.iconst 1, 45, 0, 0, 0, .int (nI 1), []) := rfl
theorem iReader_readSet_45 : ai_find (ai_tab mReader_readSet) 45 = some (.if_icmp .ne 10, 48, 55, 0, 0, .null, []) := rfl
theorem iReader_readSet_48 : ai_find (ai_tab mReader_readSet) 48 = some (.aload_n 0, 49, 0, 0, 0, .null, []) := rfl
theorem iReader_readSet_49 : ai_find (ai_tab mReader_readSet) 49 = some (.invokevirtual 63, 52, 116, 1, 1, .ref 6, []) := rfl
theorem iReader_readSet_52 : ai_find (ai_tab mReader_readSet) 52 = some (.goto 7, 55, 59, 0, 0, .null, []) := rfl
theorem iReader_readSet_55 : ai_find (ai_tab mReader_readSet) 55 = some (.aload_n 0, 56, 0, 0, 0, .null, []) := rfl
theorem iReader_readSet_56 : ai_find (ai_tab mReader_readSet) 56 = some (.invokevirtual 67, 59, 113, 1, 1, .ref 6, []) := rfl
theorem iReader_readSet_59 : ai_find (ai_tab mReader_readSet) 59 = some (.lstore 5, 61, 5, 0, 0, .null, []) := rfl
theorem iReader_readSet_61 : ai_find (ai_tab mReader_readSet) 61 = some (.lload 5, 63, 5, 0, 0, .null, []) := rfl
theorem iReader_readSet_63 : ai_find (ai_tab mReader_readSet) 63 = some (.ldc2_w 70, 66, 0, 0, 0, .long 1099511627776, []) := rfl
theorem iReader_readSet_66 : ai_find (ai_tab mReader_readSet) 66 = some (.lcmp, 67, 0, 0, 0, .null, []) := rfl
theorem iReader_readSet_67 : ai_find (ai_tab mReader_readSet) 67 = some (.ifCond .ne 5, 70, 72, 0, 0, .null, []) := rfl
theorem iReader_readSet_70 : ai_find (ai_tab mReader_readSet) 70 = some (.iconst 0, 71, 0, 0, 0, .int (nI 0), []) := rfl
theorem iReader_readSet_71 : ai_find (ai_tab mReader_readSet) 71 = some (.ireturn, 72, 1, 0, 0, .null, []) := rfl
theorem iReader_readSet_72 : ai_find (ai_tab mReader_readSet) 72 = some (.aload_n 2, 73, 2, 0, 0, .null, []) := rfl
theorem iReader_readSet_73 : ai_find (ai_tab mReader_readSet) 73 = some (.iload_n 1, 74, 1, 0, 0, .null, []) := rfl
theorem iReader_readSet_74 : ai_find (ai_tab mReader_readSet) 74 = some (.iload_n 3, 75, 3, 0, 0, .null, []) := rfl
theorem iReader_readSet_75 : ai_find (ai_tab mReader_readSet) 75 = some (.iload 4, 77, 4, 0, 0, .null, []) := rfl
theorem iReader_readSet_77 : ai_find (ai_tab mReader_readSet) 77 = some (.lload 5, 79, 5, 0, 0, .null, []) := rfl
theorem iReader_readSet_79 : ai_find (ai_tab mReader_readSet) 79 = some (.l2i, 80, 0, 0, 0, .null, []) := rfl
theorem iReader_readSet_80 : ai_find (ai_tab mReader_readSet) 80 = some (.invokevirtual 72, 83, 27, 5, 1, .ref 1, []) := rfl
theorem iReader_readSet_83 : ai_find (ai_tab mReader_readSet) 83 = some (.iconst 1, 84, 0, 0, 0, .int (nI 1), []) := rfl
theorem iReader_readSet_84 : ai_find (ai_tab mReader_readSet) 84 = some (.ireturn, 85, 1, 0, 0, .null, []) := rfl
theorem iReader_readSplice_0 : ai_find (ai_tab mReader_readSplice) 0 = some (.aload_n 0, 1, 0, 0, 0, .null, []) := rfl
theorem iReader_readSplice_1 : ai_find (ai_tab mReader_readSplice) 1 = some (.invokevirtual 20, 4, 109, 1, 1, .ref 6, []) := rfl
theorem iReader_readSplice_4 : ai_find (ai_tab mReader_readSplice) 4 = some (.istore_n 3, 5, 3, 0, 0, .null, []) := rfl
theorem iReader_readSplice_5 : ai_find (ai_tab mReader_readSplice) 5 = some (.aload_n 0, 6, 0, 0, 0, .null, []) := rfl
theorem iReader_readSplice_6 : ai_find (ai_tab mReader_readSplice) 6 = some (.invokevirtual 20, 9, 109, 1, 1, .ref 6, []) := rfl
theorem iReader_readSplice_9 : ai_find (ai_tab mReader_readSplice) 9 = some (.istore 4, 11, 4, 0, 0, .null, []) := rfl
theorem iReader_readSplice_11 : ai_find (ai_tab mReader_readSplice) 11 = some (.aload_n 0, 12, 0, 0, 0, .null, []) := rfl
theorem iReader_readSplice_12 : ai_find (ai_tab mReader_readSplice) 12 = some (.invokevirtual 20, 15, 109, 1, 1, .ref 6, []) := rfl
theorem iReader_readSplice_15 : ai_find (ai_tab mReader_readSplice) 15 = some (.istore 5, 17, 5, 0, 0, .null, []) := rfl
theorem iReader_readSplice_17 : ai_find (ai_tab mReader_readSplice) 17 = some (.iload_n 3, 18, 3, 0, 0, .null, []) := rfl
theorem iReader_readSplice_18 : ai_find (ai_tab mReader_readSplice) 18 = some (.ifCond .lt 29, 21, 47, 0, 0, .null, []) := rfl
theorem iReader_readSplice_21 : ai_find (ai_tab mReader_readSplice) 21 = some (.iload 4, 23, 4, 0, 0, .null, []) := rfl
theorem iReader_readSplice_23 : ai_find (ai_tab mReader_readSplice) 23 = some (.ifCond .lt 24, 26, 47, 0, 0, .null, []) := rfl
theorem iReader_readSplice_26 : ai_find (ai_tab mReader_readSplice) 26 = some (.iload_n 3, 27, 3, 0, 0, .null, []) := rfl
theorem iReader_readSplice_27 : ai_find (ai_tab mReader_readSplice) 27 = some (.iload 4, 29, 4, 0, 0, .null, []) := rfl
theorem iReader_readSplice_29 : ai_find (ai_tab mReader_readSplice) 29 = some (.iadd, 30, 0, 0, 0, .null, []) := rfl
theorem iReader_readSplice_30 : ai_find (ai_tab mReader_readSplice) 30 = some (.bipush 6, 32, 0, 0, 0, .int (nI 6), []) := rfl
theorem iReader_readSplice_32 : ai_find (ai_tab mReader_readSplice) 32 = some (.if_icmp .gt 15, 35, 47, 0, 0, .null, []) := rfl
theorem iReader_readSplice_35 : ai_find (ai_tab mReader_readSplice) 35 = some (.iload 5, 37, 5, 0, 0, .null, []) := rfl
theorem iReader_readSplice_37 : ai_find (ai_tab mReader_readSplice) 37 = some (.ifCond .lt 10, 40, 47, 0, 0, .null, []) := rfl
theorem iReader_readSplice_40 : ai_find (ai_tab mReader_readSplice) 40 = some (.iload 5, 42, 5, 0, 0, .null, []) := rfl
theorem iReader_readSplice_42 : ai_find (ai_tab mReader_readSplice) 42 = some (.bipush 6, 44, 0, 0, 0, .int (nI 6), []) := rfl
theorem iReader_readSplice_44 : ai_find (ai_tab mReader_readSplice) 44 = some (.if_icmp .le 7, 47, 51, 0, 0, .null, []) := rfl
theorem iReader_readSplice_47 : ai_find (ai_tab mReader_readSplice) 47 = some (.iconst 1, 48, 0, 0, 0, .int (nI 1), []) := rfl
theorem iReader_readSplice_48 : ai_find (ai_tab mReader_readSplice) 48 = some (.goto 4, 51, 52, 0, 0, .null, []) := rfl
theorem iReader_readSplice_51 : ai_find (ai_tab mReader_readSplice) 51 = some (.iconst 0, 52, 0, 0, 0, .int (nI 0), []) := rfl
theorem iReader_readSplice_52 : ai_find (ai_tab mReader_readSplice) 52 = some (.istore 6, 54, 6, 0, 0, .null, []) := rfl
theorem iReader_readSplice_54 : ai_find (ai_tab mReader_readSplice) 54 = some (.iload 6, 56, 6, 0, 0, .null, []) := rfl
theorem iReader_readSplice_56 : ai_find (ai_tab mReader_readSplice) 56 = some (.ifCond .ne 13, 59, 69, 0, 0, .null, []) := rfl
theorem iReader_readSplice_59 : ai_find (ai_tab mReader_readSplice) 59 = some (.iload 4, 61, 4, 0, 0, .null, []) := rfl
theorem iReader_readSplice_61 : ai_find (ai_tab mReader_readSplice) 61 = some (.ifCond .ne 10, 64, 71, 0, 0, .null, []) := rfl
theorem iReader_readSplice_64 : ai_find (ai_tab mReader_readSplice) 64 = some (.iload 5, 66, 5, 0, 0, .null, []) := rfl
theorem iReader_readSplice_66 : ai_find (ai_tab mReader_readSplice) 66 = some (.ifCond .ne 5, 69, 71, 0, 0, .null, []) := rfl
theorem iReader_readSplice_69 : ai_find (ai_tab mReader_readSplice) 69 = some (.iconst 0, 70, 0, 0, 0, .int (nI 0), []) := rfl
theorem iReader_readSplice_70 : ai_find (ai_tab mReader_readSplice) 70 = some (.ireturn, 71, 1, 0, 0, .null, []) := rfl
theorem iReader_readSplice_71 : ai_find (ai_tab mReader_readSplice) 71 = some (.aload_n 2, 72, 2, 0, 0, .null, []) := rfl
theorem iReader_readSplice_72 : ai_find (ai_tab mReader_readSplice) 72 = some (.iload_n 1, 73, 1, 0, 0, .null, []) := rfl
theorem iReader_readSplice_73 : ai_find (ai_tab mReader_readSplice) 73 = some (.iload_n 3, 74, 3, 0, 0, .null, []) := rfl
theorem iReader_readSplice_74 : ai_find (ai_tab mReader_readSplice) 74 = some (.iload 4, 76, 4, 0, 0, .null, []) := rfl
theorem iReader_readSplice_76 : ai_find (ai_tab mReader_readSplice) 76 = some (.invokevirtual 76, 79, 28, 4, 1, .ref 1, []) := rfl
theorem iReader_readSplice_79 : ai_find (ai_tab mReader_readSplice) 79 = some (.iconst 0, 80, 0, 0, 0, .int (nI 0), []) := rfl
theorem iReader_readSplice_80 : ai_find (ai_tab mReader_readSplice) 80 = some (.istore 7, 82, 7, 0, 0, .null, []) := rfl
theorem iReader_readSplice_82 : ai_find (ai_tab mReader_readSplice) 82 = some (.iload 7, 84, 7, 0, 0, .null, []) := rfl
theorem iReader_readSplice_84 : ai_find (ai_tab mReader_readSplice) 84 = some (.iload 5, 86, 5, 0, 0, .null, []) := rfl
theorem iReader_readSplice_86 : ai_find (ai_tab mReader_readSplice) 86 = some (.if_icmp .ge 33, 89, 119, 0, 0, .null, []) := rfl
theorem iReader_readSplice_89 : ai_find (ai_tab mReader_readSplice) 89 = some (.aload_n 0, 90, 0, 0, 0, .null, []) := rfl
theorem iReader_readSplice_90 : ai_find (ai_tab mReader_readSplice) 90 = some (.invokevirtual 63, 93, 116, 1, 1, .ref 6, []) := rfl
theorem iReader_readSplice_93 : ai_find (ai_tab mReader_readSplice) 93 = some (.lstore 8, 95, 8, 0, 0, .null, []) := rfl
theorem iReader_readSplice_95 : ai_find (ai_tab mReader_readSplice) 95 = some (.lload 8, 97, 8, 0, 0, .null, []) := rfl
theorem iReader_readSplice_97 : ai_find (ai_tab mReader_readSplice) 97 = some (.ldc2_w 70, 100, 0, 0, 0, .long 1099511627776, []) := rfl
theorem iReader_readSplice_100 : ai_find (ai_tab mReader_readSplice) 100 = some (.lcmp, 101, 0, 0, 0, .null, []) := rfl
theorem iReader_readSplice_101 : ai_find (ai_tab mReader_readSplice) 101 = some (.ifCond .ne 5, 104, 106, 0, 0, .null, []) := rfl
theorem iReader_readSplice_104 : ai_find (ai_tab mReader_readSplice) 104 = some (.iconst 0, 105, 0, 0, 0, .int (nI 0), []) := rfl
theorem iReader_readSplice_105 : ai_find (ai_tab mReader_readSplice) 105 = some (.ireturn, 106, 1, 0, 0, .null, []) := rfl
theorem iReader_readSplice_106 : ai_find (ai_tab mReader_readSplice) 106 = some (.aload_n 2, 107, 2, 0, 0, .null, []) := rfl
theorem iReader_readSplice_107 : ai_find (ai_tab mReader_readSplice) 107 = some (.lload 8, 109, 8, 0, 0, .null, []) := rfl
theorem iReader_readSplice_109 : ai_find (ai_tab mReader_readSplice) 109 = some (.l2i, 110, 0, 0, 0, .null, []) := rfl
theorem iReader_readSplice_110 : ai_find (ai_tab mReader_readSplice) 110 = some (.invokevirtual 80, 113, 26, 2, 1, .ref 1, []) := rfl
theorem iReader_readSplice_113 : ai_find (ai_tab mReader_readSplice) 113 = some (.iinc 7 1, 116, 7, 0, 0, .int (nI 1), []) := rfl
theorem iReader_readSplice_116 : ai_find (ai_tab mReader_readSplice) 116 = some (.goto (-34), 119, 82, 0, 0, .null, []) := rfl
theorem iReader_readSplice_119 : ai_find (ai_tab mReader_readSplice) 119 = some (.iconst 1, 120, 0, 0, 0, .int (nI 1), []) := rfl
set_option maxRecDepth 20000 in theorem iReader_readSplice_120 : ai_find (ai_tab mReader_readSplice) 120 = some (.ireturn, 121, 1, 0, 0, .null, []) := rfl
theorem iReader_readVarint_0 : ai_find (ai_tab mReader_readVarint) 0 = some (.lconst 0, 1, 0, 0, 0, .long 0, []) := rfl
theorem iReader_readVarint_1 : ai_find (ai_tab mReader_readVarint) 1 = some (.lstore_n 1, 2, 1, 0, 0, .null, []) := rfl
theorem iReader_readVarint_2 : ai_find (ai_tab mReader_readVarint) 2 = some (.iconst 0, 3, 0, 0, 0, .int (nI 0), []) := rfl
theorem iReader_readVarint_3 : ai_find (ai_tab mReader_readVarint) 3 = some (.istore_n 3, 4, 3, 0, 0, .null, []) := rfl
theorem iReader_readVarint_4 : ai_find (ai_tab mReader_readVarint) 4 = some (.iload_n 3, 5, 3, 0, 0, .null, []) := rfl
theorem iReader_readVarint_5 : ai_find (ai_tab mReader_readVarint) 5 = some (.bipush 35, 7, 0, 0, 0, .int (nI 35), []) := rfl
theorem iReader_readVarint_7 : ai_find (ai_tab mReader_readVarint) 7 = some (.if_icmp .ge 83, 10, 90, 0, 0, .null, []) := rfl
theorem iReader_readVarint_10 : ai_find (ai_tab mReader_readVarint) 10 = some (.aload_n 0, 11, 0, 0, 0, .null, []) := rfl
theorem iReader_readVarint_11 : ai_find (ai_tab mReader_readVarint) 11 = some (.invokevirtual 20, 14, 109, 1, 1, .ref 6, []) := rfl
theorem iReader_readVarint_14 : ai_find (ai_tab mReader_readVarint) 14 = some (.istore 4, 16, 4, 0, 0, .null, []) := rfl
theorem iReader_readVarint_16 : ai_find (ai_tab mReader_readVarint) 16 = some (.iload 4, 18, 4, 0, 0, .null, []) := rfl
theorem iReader_readVarint_18 : ai_find (ai_tab mReader_readVarint) 18 = some (.ifCond .ge 7, 21, 25, 0, 0, .null, []) := rfl
theorem iReader_readVarint_21 : ai_find (ai_tab mReader_readVarint) 21 = some (.ldc2_w 70, 24, 0, 0, 0, .long 1099511627776, []) := rfl
theorem iReader_readVarint_24 : ai_find (ai_tab mReader_readVarint) 24 = some (.lreturn, 25, 0, 0, 0, .null, []) := rfl
theorem iReader_readVarint_25 : ai_find (ai_tab mReader_readVarint) 25 = some (.lload_n 1, 26, 1, 0, 0, .null, []) := rfl
theorem iReader_readVarint_26 : ai_find (ai_tab mReader_readVarint) 26 = some (.iload 4, 28, 4, 0, 0, .null, []) := rfl
theorem iReader_readVarint_28 : ai_find (ai_tab mReader_readVarint) 28 = some (.bipush 127, 30, 0, 0, 0, .int (nI 127), []) := rfl
theorem iReader_readVarint_30 : ai_find (ai_tab mReader_readVarint) 30 = some (.iand, 31, 0, 0, 0, .null, []) := rfl
theorem iReader_readVarint_31 : ai_find (ai_tab mReader_readVarint) 31 = some (.i2l, 32, 0, 0, 0, .null, []) := rfl
theorem iReader_readVarint_32 : ai_find (ai_tab mReader_readVarint) 32 = some (.iload_n 3, 33, 3, 0, 0, .null, []) := rfl
theorem iReader_readVarint_33 : ai_find (ai_tab mReader_readVarint) 33 = some (.lshl, 34, 0, 0, 0, .null, []) := rfl
theorem iReader_readVarint_34 : ai_find (ai_tab mReader_readVarint) 34 = some (.lor, 35, 0, 0, 0, .null, []) := rfl
theorem iReader_readVarint_35 : ai_find (ai_tab mReader_readVarint) 35 = some (.lstore_n 1, 36, 1, 0, 0, .null, []) := rfl
theorem iReader_readVarint_36 : ai_find (ai_tab mReader_readVarint) 36 = some (.iload 4, 38, 4, 0, 0, .null, []) := rfl
theorem iReader_readVarint_38 : ai_find (ai_tab mReader_readVarint) 38 = some (.sipush 128, 41, 0, 0, 0, .int (nI 128), []) := rfl
theorem iReader_readVarint_41 : ai_find (ai_tab mReader_readVarint) 41 = some (.if_icmp .ge 43, 44, 84, 0, 0, .null, []) := rfl
theorem iReader_readVarint_44 : ai_find (ai_tab mReader_readVarint) 44 = some (.iload 4, 46, 4, 0, 0, .null, []) := rfl
theorem iReader_readVarint_46 : ai_find (ai_tab mReader_readVarint) 46 = some (.ifCond .ne 11, 49, 57, 0, 0, .null, []) := rfl
theorem iReader_readVarint_49 : ai_find (ai_tab mReader_readVarint) 49 = some (.iload_n 3, 50, 3, 0, 0, .null, []) := rfl
theorem iReader_readVarint_50 : ai_find (ai_tab mReader_readVarint) 50 = some (.ifCond .le 7, 53, 57, 0, 0, .null, []) := rfl
theorem iReader_readVarint_53 : ai_find (ai_tab mReader_readVarint) 53 = some (.iconst 1, 54, 0, 0, 0, .int (nI 1), []) := rfl
theorem iReader_readVarint_54 : ai_find (ai_tab mReader_readVarint) 54 = some (.goto 4, 57, 58, 0, 0, .null, []) := rfl
theorem iReader_readVarint_57 : ai_find (ai_tab mReader_readVarint) 57 = some (.iconst 0, 58, 0, 0, 0, .int (nI 0), []) := rfl
theorem iReader_readVarint_58 : ai_find (ai_tab mReader_readVarint) 58 = some (.istore 5, 60, 5, 0, 0, .null, []) := rfl
theorem iReader_readVarint_60 : ai_find (ai_tab mReader_readVarint) 60 = some (.iload 5, 62, 5, 0, 0, .null, []) := rfl
theorem iReader_readVarint_62 : ai_find (ai_tab mReader_readVarint) 62 = some (.ifCond .ne 11, 65, 73, 0, 0, .null, []) := rfl
theorem iReader_readVarint_65 : ai_find (ai_tab mReader_readVarint) 65 = some (.lload_n 1, 66, 1, 0, 0, .null, []) := rfl
theorem iReader_readVarint_66 : ai_find (ai_tab mReader_readVarint) 66 = some (.ldc2_w 84, 69, 0, 0, 0, .long 4294967296, []) := rfl
theorem iReader_readVarint_69 : ai_find (ai_tab mReader_readVarint) 69 = some (.lcmp, 70, 0, 0, 0, .null, []) := rfl
theorem iReader_readVarint_70 : ai_find (ai_tab mReader_readVarint) 70 = some (.ifCond .lt 9, 73, 79, 0, 0, .null, []) := rfl
theorem iReader_readVarint_73 : ai_find (ai_tab mReader_readVarint) 73 = some (.ldc2_w 70, 76, 0, 0, 0, .long 1099511627776, []) := rfl
theorem iReader_readVarint_76 : ai_find (ai_tab mReader_readVarint) 76 = some (.goto 7, 79, 83, 0, 0, .null, []) := rfl
theorem iReader_readVarint_79 : ai_find (ai_tab mReader_readVarint) 79 = some (.lload_n 1, 80, 1, 0, 0, .null, []) := rfl
theorem iReader_readVarint_80 : ai_find (ai_tab mReader_readVarint) 80 = some (.invokestatic 86, 83, 117, 1, 0, .null, []) := rfl
theorem iReader_readVarint_83 : ai_find (ai_tab mReader_readVarint) 83 = some (.lreturn, 84, 0, 0, 0, .null, []) := rfl
theorem iReader_readVarint_84 : ai_find (ai_tab mReader_readVarint) 84 = some (.iinc 3 7, 87, 3, 0, 0, .int (nI 7), []) := rfl
theorem iReader_readVarint_87 : ai_find (ai_tab mReader_readVarint) 87 = some (.goto (-83), 90, 4, 0, 0, .null, []) := rfl
theorem iReader_readVarint_90 : ai_find (ai_tab mReader_readVarint) 90 = some (.ldc2_w 70, 93, 0, 0, 0, .long 1099511627776, []) := rfl
theorem iReader_readVarint_93 : ai_find (ai_tab mReader_readVarint) 93 = some (.lreturn, 94, 0, 0, 0, .null, []) := rfl
theorem iReader_signed_0 : ai_find (ai_tab mReader_signed) 0 = some (.lload_n 0, 1, 0, 0, 0, .null, []) := rfl
theorem iReader_signed_1 : ai_find (ai_tab mReader_signed) 1 = some (.lconst 1, 2, 0, 0, 0, .long 1, []) := rfl
theorem iReader_signed_2 : ai_find (ai_tab mReader_signed) 2 = some (.land, 3, 0, 0, 0, .null, []) := rfl
theorem iReader_signed_3 : ai_find (ai_tab mReader_signed) 3 = some (.lconst 0, 4, 0, 0, 0, .long 0, []) := rfl
theorem iReader_signed_4 : ai_find (ai_tab mReader_signed) 4 = some (.lcmp, 5, 0, 0, 0, .null, []) := rfl
theorem iReader_signed_5 : ai_find (ai_tab mReader_signed) 5 = some (.ifCond .ne 9, 8, 14, 0, 0, .null, []) := rfl
theorem iReader_signed_8 : ai_find (ai_tab mReader_signed) 8 = some (.lload_n 0, 9, 0, 0, 0, .null, []) := rfl
theorem iReader_signed_9 : ai_find (ai_tab mReader_signed) 9 = some (.iconst 1, 10, 0, 0, 0, .int (nI 1), []) := rfl
theorem iReader_signed_10 : ai_find (ai_tab mReader_signed) 10 = some (.lshr, 11, 0, 0, 0, .null, []) := rfl
theorem iReader_signed_11 : ai_find (ai_tab mReader_signed) 11 = some (.goto 9, 14, 20, 0, 0, .null, []) := rfl
theorem iReader_signed_14 : ai_find (ai_tab mReader_signed) 14 = some (.lload_n 0, 15, 0, 0, 0, .null, []) := rfl
theorem iReader_signed_15 : ai_find (ai_tab mReader_signed) 15 = some (.lconst 1, 16, 0, 0, 0, .long 1, []) := rfl
theorem iReader_signed_16 : ai_find (ai_tab mReader_signed) 16 = some (.ladd, 17, 0, 0, 0, .null, []) := rfl
theorem iReader_signed_17 : ai_find (ai_tab mReader_signed) 17 = some (.iconst 1, 18, 0, 0, 0, .int (nI 1), []) := rfl
theorem iReader_signed_18 : ai_find (ai_tab mReader_signed) 18 = some (.lshr, 19, 0, 0, 0, .null, []) := rfl
theorem iReader_signed_19 : ai_find (ai_tab mReader_signed) 19 = some (.lneg, 20, 0, 0, 0, .null, []) := rfl
theorem iReader_signed_20 : ai_find (ai_tab mReader_signed) 20 = some (.lreturn, 21, 0, 0, 0, .null, []) := rfl
theorem iGraphDeltasModel_init_0 : ai_find (ai_tab mGraphDeltasModel_init) 0 = some (.aload_n 0, 1, 0, 0, 0, .null, []) := rfl
theorem iGraphDeltasModel_init_1 : ai_find (ai_tab mGraphDeltasModel_init) 1 = some (.invokespecial 1, 4, 0, 1, 3, .null, []) := rfl
theorem iGraphDeltasModel_init_4 : ai_find (ai_tab mGraphDeltasModel_init) 4 = some (.aload_n 0, 5, 0, 0, 0, .null, []) := rfl
theorem iGraphDeltasModel_init_5 : ai_find (ai_tab mGraphDeltasModel_init) 5 = some (.iconst 1, 6, 0, 0, 0, .int (nI 1), []) := rfl
theorem iGraphDeltasModel_init_6 : ai_find (ai_tab mGraphDeltasModel_init) 6 = some (.putfield 7, 9, 7, 0, 0, .null, []) := rfl
theorem iGraphDeltasModel_init_9 : ai_find (ai_tab mGraphDeltasModel_init) 9 = some (.aload_n 0, 10, 0, 0, 0, .null, []) := rfl
theorem iGraphDeltasModel_init_10 : ai_find (ai_tab mGraphDeltasModel_init) 10 = some (.bipush 16, 12, 0, 0, 0, .int (nI 16), []) := rfl
theorem iGraphDeltasModel_init_12 : ai_find (ai_tab mGraphDeltasModel_init) 12 = some (.newarray .boolean, 14, 1, 0, 0, .null, []) := rfl
theorem iGraphDeltasModel_init_14 : ai_find (ai_tab mGraphDeltasModel_init) 14 = some (.putfield 13, 17, 7, 1, 3, .null, []) := rfl
theorem iGraphDeltasModel_init_17 : ai_find (ai_tab mGraphDeltasModel_init) 17 = some (.aload_n 0, 18, 0, 0, 0, .null, []) := rfl
theorem iGraphDeltasModel_init_18 : ai_find (ai_tab mGraphDeltasModel_init) 18 = some (.sipush 160, 21, 0, 0, 0, .int (nI 160), []) := rfl
theorem iGraphDeltasModel_init_21 : ai_find (ai_tab mGraphDeltasModel_init) 21 = some (.newarray .boolean, 23, 1, 0, 0, .null, []) := rfl
theorem iGraphDeltasModel_init_23 : ai_find (ai_tab mGraphDeltasModel_init) 23 = some (.putfield 17, 26, 7, 3, 3, .null, []) := rfl
theorem iGraphDeltasModel_init_26 : ai_find (ai_tab mGraphDeltasModel_init) 26 = some (.aload_n 0, 27, 0, 0, 0, .null, []) := rfl
theorem iGraphDeltasModel_init_27 : ai_find (ai_tab mGraphDeltasModel_init) 27 = some (.sipush 160, 30, 0, 0, 0, .int (nI 160), []) := rfl
theorem iGraphDeltasModel_init_30 : ai_find (ai_tab mGraphDeltasModel_init) 30 = some (.newarray .int, 32, 0, 0, 0, .null, []) := rfl
theorem iGraphDeltasModel_init_32 : ai_find (ai_tab mGraphDeltasModel_init) 32 = some (.putfield 20, 35, 7, 4, 3, .null, []) := rfl
theorem iGraphDeltasModel_init_35 : ai_find (ai_tab mGraphDeltasModel_init) 35 = some (.aload_n 0, 36, 0, 0, 0, .null, []) := rfl
theorem iGraphDeltasModel_init_36 : ai_find (ai_tab mGraphDeltasModel_init) 36 = some (.sipush 960, 39, 0, 0, 0, .int (nI 960), []) := rfl
theorem iGraphDeltasModel_init_39 : ai_find (ai_tab mGraphDeltasModel_init) 39 = some (.newarray .long, 41, 2, 0, 0, .null, []) := rfl
theorem iGraphDeltasModel_init_41 : ai_find (ai_tab mGraphDeltasModel_init) 41 = some (.putfield 24, 44, 7, 5, 3, .null, []) := rfl
theorem iGraphDeltasModel_init_44 : ai_find (ai_tab mGraphDeltasModel_init) 44 = some (.aload_n 0, 45, 0, 0, 0, .null, []) := rfl
theorem iGraphDeltasModel_init_45 : ai_find (ai_tab mGraphDeltasModel_init) 45 = some (.bipush 16, 47, 0, 0, 0, .int (nI 16), []) := rfl
theorem iGraphDeltasModel_init_47 : ai_find (ai_tab mGraphDeltasModel_init) 47 = some (.newarray .boolean, 49, 1, 0, 0, .null, []) := rfl
theorem iGraphDeltasModel_init_49 : ai_find (ai_tab mGraphDeltasModel_init) 49 = some (.putfield 28, 52, 7, 6, 3, .null, []) := rfl
theorem iGraphDeltasModel_init_52 : ai_find (ai_tab mGraphDeltasModel_init) 52 = some (.aload_n 0, 53, 0, 0, 0, .null, []) := rfl
theorem iGraphDeltasModel_init_53 : ai_find (ai_tab mGraphDeltasModel_init) 53 = some (.iconst 4, 54, 0, 0, 0, .int (nI 4), []) := rfl
theorem iGraphDeltasModel_init_54 : ai_find (ai_tab mGraphDeltasModel_init) 54 = some (.newarray .int, 56, 0, 0, 0, .null, []) := rfl
theorem iGraphDeltasModel_init_56 : ai_find (ai_tab mGraphDeltasModel_init) 56 = some (.putfield 31, 59, 7, 7, 3, .null, []) := rfl
theorem iGraphDeltasModel_init_59 : ai_find (ai_tab mGraphDeltasModel_init) 59 = some (.aload_n 0, 60, 0, 0, 0, .null, []) := rfl
theorem iGraphDeltasModel_init_60 : ai_find (ai_tab mGraphDeltasModel_init) 60 = some (.sipush 520, 63, 0, 0, 0, .int (nI 520), []) := rfl
theorem iGraphDeltasModel_init_63 : ai_find (ai_tab mGraphDeltasModel_init) 63 = some (.newarray .int, 65, 0, 0, 0, .null, []) := rfl
theorem iGraphDeltasModel_init_65 : ai_find (ai_tab mGraphDeltasModel_init) 65 = some (.putfield 34, 68, 7, 8, 3, .null, []) := rfl
theorem iGraphDeltasModel_init_68 : ai_find (ai_tab mGraphDeltasModel_init) 68 = some (.aload_n 0, 69, 0, 0, 0, .null, []) := rfl
theorem iGraphDeltasModel_init_69 : ai_find (ai_tab mGraphDeltasModel_init) 69 = some (.sipush 520, 72, 0, 0, 0, .int (nI 520), []) := rfl
theorem iGraphDeltasModel_init_72 : ai_find (ai_tab mGraphDeltasModel_init) 72 = some (.newarray .int, 74, 0, 0, 0, .null, []) := rfl
theorem iGraphDeltasModel_init_74 : ai_find (ai_tab mGraphDeltasModel_init) 74 = some (.putfield 37, 77, 7, 9, 3, .null, []) := rfl
theorem iGraphDeltasModel_init_77 : ai_find (ai_tab mGraphDeltasModel_init) 77 = some (.aload_n 0, 78, 0, 0, 0, .null, []) := rfl
theorem iGraphDeltasModel_init_78 : ai_find (ai_tab mGraphDeltasModel_init) 78 = some (.sipush 520, 81, 0, 0, 0, .int (nI 520), []) := rfl
theorem iGraphDeltasModel_init_81 : ai_find (ai_tab mGraphDeltasModel_init) 81 = some (.newarray .int, 83, 0, 0, 0, .null, []) := rfl
theorem iGraphDeltasModel_init_83 : ai_find (ai_tab mGraphDeltasModel_init) 83 = some (.putfield 40, 86, 7, 10, 3, .null, []) := rfl
theorem iGraphDeltasModel_init_86 : ai_find (ai_tab mGraphDeltasModel_init) 86 = some (.aload_n 0, 87, 0, 0, 0, .null, []) := rfl
theorem iGraphDeltasModel_init_87 : ai_find (ai_tab mGraphDeltasModel_init) 87 = some (.sipush 520, 90, 0, 0, 0, .int (nI 520), []) := rfl
theorem iGraphDeltasModel_init_90 : ai_find (ai_tab mGraphDeltasModel_init) 90 = some (.newarray .int, 92, 0, 0, 0, .null, []) := rfl
theorem iGraphDeltasModel_init_92 : ai_find (ai_tab mGraphDeltasModel_init) 92 = some (.putfield 43, 95, 7, 11, 3, .null, []) := rfl
theorem iGraphDeltasModel_init_95 : ai_find (ai_tab mGraphDeltasModel_init) 95 = some (.aload_n 0, 96, 0, 0, 0, .null, []) := rfl
theorem iGraphDeltasModel_init_96 : ai_find (ai_tab mGraphDeltasModel_init) 96 = some (.sipush 520, 99, 0, 0, 0, .int (nI 520), []) := rfl
theorem iGraphDeltasModel_init_99 : ai_find (ai_tab mGraphDeltasModel_init) 99 = some (.newarray .long, 101, 2, 0, 0, .null, []) := rfl
theorem iGraphDeltasModel_init_101 : ai_find (ai_tab mGraphDeltasModel_init) 101 = some (.putfield 46, 104, 7, 12, 3, .null, []) := rfl
theorem iGraphDeltasModel_init_104 : ai_find (ai_tab mGraphDeltasModel_init) 104 = some (.aload_n 0, 105, 0, 0, 0, .null, []) := rfl
theorem iGraphDeltasModel_init_105 : ai_find (ai_tab mGraphDeltasModel_init) 105 = some (.sipush 520, 108, 0, 0, 0, .int (nI 520), []) := rfl
theorem iGraphDeltasModel_init_108 : ai_find (ai_tab mGraphDeltasModel_init) 108 = some (.newarray .int, 110, 0, 0, 0, .null, []) := rfl
theorem iGraphDeltasModel_init_110 : ai_find (ai_tab mGraphDeltasModel_init) 110 = some (.putfield 49, 113, 7, 13, 3, .null, []) := rfl
theorem iGraphDeltasModel_init_113 : ai_find (ai_tab mGraphDeltasModel_init) 113 = some (.aload_n 0, 114, 0, 0, 0, .null, []) := rfl
theorem iGraphDeltasModel_init_114 : ai_find (ai_tab mGraphDeltasModel_init) 114 = some (.iconst 4, 115, 0, 0, 0, .int (nI 4), []) := rfl
theorem iGraphDeltasModel_init_115 : ai_find (ai_tab mGraphDeltasModel_init) 115 = some (.newarray .int, 117, 0, 0, 0, .null, []) := rfl
theorem iGraphDeltasModel_init_117 : ai_find (ai_tab mGraphDeltasModel_init) 117 = some (.putfield 52, 120, 7, 14, 3, .null, []) := rfl
theorem iGraphDeltasModel_init_120 : ai_find (ai_tab mGraphDeltasModel_init) 120 = some (.aload_n 0, 121, 0, 0, 0, .null, []) := rfl
theorem iGraphDeltasModel_init_121 : ai_find (ai_tab mGraphDeltasModel_init) 121 = some (.sipush 5200, 124, 0, 0, 0, .int (nI 5200), []) := rfl
theorem iGraphDeltasModel_init_124 : ai_find (ai_tab mGraphDeltasModel_init) 124 = some (.newarray .int, 126, 0, 0, 0, .null, []) := rfl
theorem iGraphDeltasModel_init_126 : ai_find (ai_tab mGraphDeltasModel_init) 126 = some (.putfield 55, 129, 7, 15, 3, .null, []) := rfl
set_option maxRecDepth 20000 in theorem iGraphDeltasModel_init_129 : ai_find (ai_tab mGraphDeltasModel_init) 129 = some (.aload_n 0, 130, 0, 0, 0, .null, []) := rfl
set_option maxRecDepth 20000 in theorem iGraphDeltasModel_init_130 : ai_find (ai_tab mGraphDeltasModel_init) 130 = some (.bipush 64, 132, 0, 0, 0, .int (nI 64), []) := rfl
set_option maxRecDepth 20000 in theorem iGraphDeltasModel_init_132 : ai_find (ai_tab mGraphDeltasModel_init) 132 = some (.newarray .int, 134, 0, 0, 0, .null, []) := rfl
set_option maxRecDepth 20000 in theorem iGraphDeltasModel_init_134 : ai_find (ai_tab mGraphDeltasModel_init) 134 = some (.putfield 58, 137, 7, 17, 3, .null, []) := rfl
set_option maxRecDepth 20000 in theorem iGraphDeltasModel_init_137 : ai_find (ai_tab mGraphDeltasModel_init) 137 = some (.aload_n 0, 138, 0, 0, 0, .null, []) := rfl
set_option maxRecDepth 20000 in theorem iGraphDeltasModel_init_138 : ai_find (ai_tab mGraphDeltasModel_init) 138 = some (.sipush 1200, 141, 0, 0, 0, .int (nI 1200), []) := rfl
set_option maxRecDepth 20000 in theorem iGraphDeltasModel_init_141 : ai_find (ai_tab mGraphDeltasModel_init) 141 = some (.newarray .int, 143, 0, 0, 0, .null, []) := rfl
set_option maxRecDepth 20000 in theorem iGraphDeltasModel_init_143 : ai_find (ai_tab mGraphDeltasModel_init) 143 = some (.putfield 61, 146, 7, 19, 3, .null, []) := rfl
set_option maxRecDepth 20000 in theorem iGraphDeltasModel_init_146 : ai_find (ai_tab mGraphDeltasModel_init) 146 = some (.aload_n 0, 147, 0, 0, 0, .null, []) := rfl
set_option maxRecDepth 20000 in theorem iGraphDeltasModel_init_147 : ai_find (ai_tab mGraphDeltasModel_init) 147 = some (.sipush 1200, 150, 0, 0, 0, .int (nI 1200), []) := rfl
set_option maxRecDepth 20000 in theorem iGraphDeltasModel_init_150 : ai_find (ai_tab mGraphDeltasModel_init) 150 = some (.newarray .int, 152, 0, 0, 0, .null, []) := rfl
set_option maxRecDepth 20000 in theorem iGraphDeltasModel_init_152 : ai_find (ai_tab mGraphDeltasModel_init) 152 = some (.putfield 64, 155, 7, 21, 3, .null, []) := rfl
set_option maxRecDepth 20000 in theorem iGraphDeltasModel_init_155 : ai_find (ai_tab mGraphDeltasModel_init) 155 = some (.aload_n 0, 156, 0, 0, 0, .null, []) := rfl
set_option maxRecDepth 20000 in theorem iGraphDeltasModel_init_156 : ai_find (ai_tab mGraphDeltasModel_init) 156 = some (.getfield 17, 159, 7, 3, 0, .null, []) := rfl
set_option maxRecDepth 20000 in theorem iGraphDeltasModel_init_159 : ai_find (ai_tab mGraphDeltasModel_init) 159 = some (.iconst 0, 160, 0, 0, 0, .int (nI 0), []) := rfl
set_option maxRecDepth 20000 in theorem iGraphDeltasModel_init_160 : ai_find (ai_tab mGraphDeltasModel_init) 160 = some (.iconst 1, 161, 0, 0, 0, .int (nI 1), []) := rfl
set_option maxRecDepth 20000 in theorem iGraphDeltasModel_init_161 : ai_find (ai_tab mGraphDeltasModel_init) 161 = some (.bastore, 162, 0, 0, 0, .null, []) := rfl
set_option maxRecDepth 20000 in theorem iGraphDeltasModel_init_162 : ai_find (ai_tab mGraphDeltasModel_init) 162 = some (.aload_n 0, 163, 0, 0, 0, .null, []) := rfl
set_option maxRecDepth 20000 in theorem iGraphDeltasModel_init_163 : ai_find (ai_tab mGraphDeltasModel_init) 163 = some (.iconst 0, 164, 0, 0, 0, .int (nI 0), []) := rfl
set_option maxRecDepth 20000 in theorem iGraphDeltasModel_init_164 : ai_find (ai_tab mGraphDeltasModel_init) 164 = some (.invokevirtual 67, 167, 126, 2, 1, .ref 7, []) := rfl
set_option maxRecDepth 20000 in theorem iGraphDeltasModel_init_167 : ai_find (ai_tab mGraphDeltasModel_init) 167 = some (.return_, 168, 0, 0, 0, .null, []) := rfl
theorem iGraphDeltasModel_add_0 : ai_find (ai_tab mGraphDeltasModel_add) 0 = some (.sipush 130, 3, 0, 0, 0, .int (nI 130), []) := rfl
theorem iGraphDeltasModel_add_3 : ai_find (ai_tab mGraphDeltasModel_add) 3 = some (.iload_n 1, 4, 1, 0, 0, .null, []) := rfl
theorem iGraphDeltasModel_add_4 : ai_find (ai_tab mGraphDeltasModel_add) 4 = some (.imul, 5, 0, 0, 0, .null, []) := rfl
theorem iGraphDeltasModel_add_5 : ai_find (ai_tab mGraphDeltasModel_add) 5 = some (.aload_n 0, 6, 0, 0, 0, .null, []) := rfl
theorem iGraphDeltasModel_add_6 : ai_find (ai_tab mGraphDeltasModel_add) 6 = some (.getfield 31, 9, 7, 7, 0, .null, []) := rfl
theorem iGraphDeltasModel_add_9 : ai_find (ai_tab mGraphDeltasModel_add) 9 = some (.iload_n 1, 10, 1, 0, 0, .null, []) := rfl
theorem iGraphDeltasModel_add_10 : ai_find (ai_tab mGraphDeltasModel_add) 10 = some (.iaload, 11, 0, 0, 0, .null, []) := rfl
theorem iGraphDeltasModel_add_11 : ai_find (ai_tab mGraphDeltasModel_add) 11 = some (.iadd, 12, 0, 0, 0, .null, []) := rfl
theorem iGraphDeltasModel_add_12 : ai_find (ai_tab mGraphDeltasModel_add) 12 = some (.istore 8, 14, 8, 0, 0, .null, []) := rfl
theorem iGraphDeltasModel_add_14 : ai_find (ai_tab mGraphDeltasModel_add) 14 = some (.aload_n 0, 15, 0, 0, 0, .null, []) := rfl
theorem iGraphDeltasModel_add_15 : ai_find (ai_tab mGraphDeltasModel_add) 15 = some (.getfield 34, 18, 7, 8, 0, .null, []) := rfl
theorem iGraphDeltasModel_add_18 : ai_find (ai_tab mGraphDeltasModel_add) 18 = some (.iload 8, 20, 8, 0, 0, .null, []) := rfl
theorem iGraphDeltasModel_add_20 : ai_find (ai_tab mGraphDeltasModel_add) 20 = some (.iload_n 2, 21, 2, 0, 0, .null, []) := rfl
theorem iGraphDeltasModel_add_21 : ai_find (ai_tab mGraphDeltasModel_add) 21 = some (.iastore, 22, 0, 0, 0, .null, []) := rfl
theorem iGraphDeltasModel_add_22 : ai_find (ai_tab mGraphDeltasModel_add) 22 = some (.aload_n 0, 23, 0, 0, 0, .null, []) := rfl
theorem iGraphDeltasModel_add_23 : ai_find (ai_tab mGraphDeltasModel_add) 23 = some (.getfield 37, 26, 7, 9, 0, .null, []) := rfl
theorem iGraphDeltasModel_add_26 : ai_find (ai_tab mGraphDeltasModel_add) 26 = some (.iload 8, 28, 8, 0, 0, .null, []) := rfl
theorem iGraphDeltasModel_add_28 : ai_find (ai_tab mGraphDeltasModel_add) 28 = some (.iload_n 3, 29, 3, 0, 0, .null, []) := rfl
theorem iGraphDeltasModel_add_29 : ai_find (ai_tab mGraphDeltasModel_add) 29 = some (.iastore, 30, 0, 0, 0, .null, []) := rfl
theorem iGraphDeltasModel_add_30 : ai_find (ai_tab mGraphDeltasModel_add) 30 = some (.aload_n 0, 31, 0, 0, 0, .null, []) := rfl
theorem iGraphDeltasModel_add_31 : ai_find (ai_tab mGraphDeltasModel_add) 31 = some (.getfield 40, 34, 7, 10, 0, .null, []) := rfl
theorem iGraphDeltasModel_add_34 : ai_find (ai_tab mGraphDeltasModel_add) 34 = some (.iload 8, 36, 8, 0, 0, .null, []) := rfl
theorem iGraphDeltasModel_add_36 : ai_find (ai_tab mGraphDeltasModel_add) 36 = some (.iload 4, 38, 4, 0, 0, .null, []) := rfl
theorem iGraphDeltasModel_add_38 : ai_find (ai_tab mGraphDeltasModel_add) 38 = some (.iastore, 39, 0, 0, 0, .null, []) := rfl
theorem iGraphDeltasModel_add_39 : ai_find (ai_tab mGraphDeltasModel_add) 39 = some (.aload_n 0, 40, 0, 0, 0, .null, []) := rfl
theorem iGraphDeltasModel_add_40 : ai_find (ai_tab mGraphDeltasModel_add) 40 = some (.getfield 43, 43, 7, 11, 0, .null, []) := rfl
theorem iGraphDeltasModel_add_43 : ai_find (ai_tab mGraphDeltasModel_add) 43 = some (.iload 8, 45, 8, 0, 0, .null, []) := rfl
theorem iGraphDeltasModel_add_45 : ai_find (ai_tab mGraphDeltasModel_add) 45 = some (.iload 5, 47, 5, 0, 0, .null, []) := rfl
theorem iGraphDeltasModel_add_47 : ai_find (ai_tab mGraphDeltasModel_add) 47 = some (.iastore, 48, 0, 0, 0, .null, []) := rfl
theorem iGraphDeltasModel_add_48 : ai_find (ai_tab mGraphDeltasModel_add) 48 = some (.aload_n 0, 49, 0, 0, 0, .null, []) := rfl
theorem iGraphDeltasModel_add_49 : ai_find (ai_tab mGraphDeltasModel_add) 49 = some (.getfield 46, 52, 7, 12, 0, .null, []) := rfl
theorem iGraphDeltasModel_add_52 : ai_find (ai_tab mGraphDeltasModel_add) 52 = some (.iload 8, 54, 8, 0, 0, .null, []) := rfl
theorem iGraphDeltasModel_add_54 : ai_find (ai_tab mGraphDeltasModel_add) 54 = some (.lload 6, 56, 6, 0, 0, .null, []) := rfl
theorem iGraphDeltasModel_add_56 : ai_find (ai_tab mGraphDeltasModel_add) 56 = some (.lastore, 57, 0, 0, 0, .null, []) := rfl
theorem iGraphDeltasModel_add_57 : ai_find (ai_tab mGraphDeltasModel_add) 57 = some (.aload_n 0, 58, 0, 0, 0, .null, []) := rfl
theorem iGraphDeltasModel_add_58 : ai_find (ai_tab mGraphDeltasModel_add) 58 = some (.getfield 49, 61, 7, 13, 0, .null, []) := rfl
theorem iGraphDeltasModel_add_61 : ai_find (ai_tab mGraphDeltasModel_add) 61 = some (.iload 8, 63, 8, 0, 0, .null, []) := rfl
theorem iGraphDeltasModel_add_63 : ai_find (ai_tab mGraphDeltasModel_add) 63 = some (.aload_n 0, 64, 0, 0, 0, .null, []) := rfl
theorem iGraphDeltasModel_add_64 : ai_find (ai_tab mGraphDeltasModel_add) 64 = some (.getfield 52, 67, 7, 14, 0, .null, []) := rfl
theorem iGraphDeltasModel_add_67 : ai_find (ai_tab mGraphDeltasModel_add) 67 = some (.iload_n 1, 68, 1, 0, 0, .null, []) := rfl
theorem iGraphDeltasModel_add_68 : ai_find (ai_tab mGraphDeltasModel_add) 68 = some (.iaload, 69, 0, 0, 0, .null, []) := rfl
theorem iGraphDeltasModel_add_69 : ai_find (ai_tab mGraphDeltasModel_add) 69 = some (.iastore, 70, 0, 0, 0, .null, []) := rfl
theorem iGraphDeltasModel_add_70 : ai_find (ai_tab mGraphDeltasModel_add) 70 = some (.aload_n 0, 71, 0, 0, 0, .null, []) := rfl
theorem iGraphDeltasModel_add_71 : ai_find (ai_tab mGraphDeltasModel_add) 71 = some (.getfield 31, 74, 7, 7, 0, .null, []) := rfl
theorem iGraphDeltasModel_add_74 : ai_find (ai_tab mGraphDeltasModel_add) 74 = some (.iload_n 1, 75, 1, 0, 0, .null, []) := rfl
theorem iGraphDeltasModel_add_75 : ai_find (ai_tab mGraphDeltasModel_add) 75 = some (.dup2, 76, 0, 0, 0, .null, []) := rfl
theorem iGraphDeltasModel_add_76 : ai_find (ai_tab mGraphDeltasModel_add) 76 = some (.iaload, 77, 0, 0, 0, .null, []) := rfl
theorem iGraphDeltasModel_add_77 : ai_find (ai_tab mGraphDeltasModel_add) 77 = some (.iconst 1, 78, 0, 0, 0, .int (nI 1), []) := rfl
theorem iGraphDeltasModel_add_78 : ai_find (ai_tab mGraphDeltasModel_add) 78 = some (.iadd, 79, 0, 0, 0, .null, []) := rfl
theorem iGraphDeltasModel_add_79 : ai_find (ai_tab mGraphDeltasModel_add) 79 = some (.iastore, 80, 0, 0, 0, .null, []) := rfl
theorem iGraphDeltasModel_add_80 : ai_find (ai_tab mGraphDeltasModel_add) 80 = some (.return_, 81, 0, 0, 0, .null, []) := rfl
theorem iGraphDeltasModel_addInt_0 : ai_find (ai_tab mGraphDeltasModel_addInt) 0 = some (.aload_n 0, 1, 0, 0, 0, .null, []) := rfl
theorem iGraphDeltasModel_addInt_1 : ai_find (ai_tab mGraphDeltasModel_addInt) 1 = some (.getfield 55, 4, 7, 15, 0, .null, []) := rfl
theorem iGraphDeltasModel_addInt_4 : ai_find (ai_tab mGraphDeltasModel_addInt) 4 = some (.aload_n 0, 5, 0, 0, 0, .null, []) := rfl
theorem iGraphDeltasModel_addInt_5 : ai_find (ai_tab mGraphDeltasModel_addInt) 5 = some (.getfield 52, 8, 7, 14, 0, .null, []) := rfl
theorem iGraphDeltasModel_addInt_8 : ai_find (ai_tab mGraphDeltasModel_addInt) 8 = some (.iload_n 1, 9, 1, 0, 0, .null, []) := rfl
theorem iGraphDeltasModel_addInt_9 : ai_find (ai_tab mGraphDeltasModel_addInt) 9 = some (.iaload, 10, 0, 0, 0, .null, []) := rfl
theorem iGraphDeltasModel_addInt_10 : ai_find (ai_tab mGraphDeltasModel_addInt) 10 = some (.iload_n 2, 11, 2, 0, 0, .null, []) := rfl
theorem iGraphDeltasModel_addInt_11 : ai_find (ai_tab mGraphDeltasModel_addInt) 11 = some (.iastore, 12, 0, 0, 0, .null, []) := rfl
theorem iGraphDeltasModel_addInt_12 : ai_find (ai_tab mGraphDeltasModel_addInt) 12 = some (.aload_n 0, 13, 0, 0, 0, .null, []) := rfl
theorem iGraphDeltasModel_addInt_13 : ai_find (ai_tab mGraphDeltasModel_addInt) 13 = some (.getfield 52, 16, 7, 14, 0, .null, []) := rfl
theorem iGraphDeltasModel_addInt_16 : ai_find (ai_tab mGraphDeltasModel_addInt) 16 = some (.iload_n 1, 17, 1, 0, 0, .null, []) := rfl
theorem iGraphDeltasModel_addInt_17 : ai_find (ai_tab mGraphDeltasModel_addInt) 17 = some (.dup2, 18, 0, 0, 0, .null, []) := rfl
theorem iGraphDeltasModel_addInt_18 : ai_find (ai_tab mGraphDeltasModel_addInt) 18 = some (.iaload, 19, 0, 0, 0, .null, []) := rfl
theorem iGraphDeltasModel_addInt_19 : ai_find (ai_tab mGraphDeltasModel_addInt) 19 = some (.iconst 1, 20, 0, 0, 0, .int (nI 1), []) := rfl
theorem iGraphDeltasModel_addInt_20 : ai_find (ai_tab mGraphDeltasModel_addInt) 20 = some (.iadd, 21, 0, 0, 0, .null, []) := rfl
theorem iGraphDeltasModel_addInt_21 : ai_find (ai_tab mGraphDeltasModel_addInt) 21 = some (.iastore, 22, 0, 0, 0, .null, []) := rfl
theorem iGraphDeltasModel_addInt_22 : ai_find (ai_tab mGraphDeltasModel_addInt) 22 = some (.return_, 23, 0, 0, 0, .null, []) := rfl
theorem iGraphDeltasModel_alike_0 : ai_find (ai_tab mGraphDeltasModel_alike) 0 = some (.aload_n 0, 1, 0, 0, 0, .null, []) := rfl
theorem iGraphDeltasModel_alike_1 : ai_find (ai_tab mGraphDeltasModel_alike) 1 = some (.getfield 24, 4, 7, 5, 0, .null, []) := rfl
theorem iGraphDeltasModel_alike_4 : ai_find (ai_tab mGraphDeltasModel_alike) 4 = some (.bipush 96, 6, 0, 0, 0, .int (nI 96), []) := rfl
theorem iGraphDeltasModel_alike_6 : ai_find (ai_tab mGraphDeltasModel_alike) 6 = some (.iload_n 1, 7, 1, 0, 0, .null, []) := rfl
theorem iGraphDeltasModel_alike_7 : ai_find (ai_tab mGraphDeltasModel_alike) 7 = some (.imul, 8, 0, 0, 0, .null, []) := rfl
theorem iGraphDeltasModel_alike_8 : ai_find (ai_tab mGraphDeltasModel_alike) 8 = some (.bipush 6, 10, 0, 0, 0, .int (nI 6), []) := rfl
theorem iGraphDeltasModel_alike_10 : ai_find (ai_tab mGraphDeltasModel_alike) 10 = some (.iload_n 3, 11, 3, 0, 0, .null, []) := rfl
theorem iGraphDeltasModel_alike_11 : ai_find (ai_tab mGraphDeltasModel_alike) 11 = some (.imul, 12, 0, 0, 0, .null, []) := rfl
theorem iGraphDeltasModel_alike_12 : ai_find (ai_tab mGraphDeltasModel_alike) 12 = some (.iadd, 13, 0, 0, 0, .null, []) := rfl
theorem iGraphDeltasModel_alike_13 : ai_find (ai_tab mGraphDeltasModel_alike) 13 = some (.iload 4, 15, 4, 0, 0, .null, []) := rfl
theorem iGraphDeltasModel_alike_15 : ai_find (ai_tab mGraphDeltasModel_alike) 15 = some (.iadd, 16, 0, 0, 0, .null, []) := rfl
theorem iGraphDeltasModel_alike_16 : ai_find (ai_tab mGraphDeltasModel_alike) 16 = some (.laload, 17, 0, 0, 0, .null, []) := rfl
theorem iGraphDeltasModel_alike_17 : ai_find (ai_tab mGraphDeltasModel_alike) 17 = some (.aload_n 0, 18, 0, 0, 0, .null, []) := rfl
theorem iGraphDeltasModel_alike_18 : ai_find (ai_tab mGraphDeltasModel_alike) 18 = some (.getfield 24, 21, 7, 5, 0, .null, []) := rfl
theorem iGraphDeltasModel_alike_21 : ai_find (ai_tab mGraphDeltasModel_alike) 21 = some (.bipush 96, 23, 0, 0, 0, .int (nI 96), []) := rfl
theorem iGraphDeltasModel_alike_23 : ai_find (ai_tab mGraphDeltasModel_alike) 23 = some (.iload_n 2, 24, 2, 0, 0, .null, []) := rfl
theorem iGraphDeltasModel_alike_24 : ai_find (ai_tab mGraphDeltasModel_alike) 24 = some (.imul, 25, 0, 0, 0, .null, []) := rfl
theorem iGraphDeltasModel_alike_25 : ai_find (ai_tab mGraphDeltasModel_alike) 25 = some (.bipush 6, 27, 0, 0, 0, .int (nI 6), []) := rfl
theorem iGraphDeltasModel_alike_27 : ai_find (ai_tab mGraphDeltasModel_alike) 27 = some (.iload_n 3, 28, 3, 0, 0, .null, []) := rfl
theorem iGraphDeltasModel_alike_28 : ai_find (ai_tab mGraphDeltasModel_alike) 28 = some (.imul, 29, 0, 0, 0, .null, []) := rfl
theorem iGraphDeltasModel_alike_29 : ai_find (ai_tab mGraphDeltasModel_alike) 29 = some (.iadd, 30, 0, 0, 0, .null, []) := rfl
theorem iGraphDeltasModel_alike_30 : ai_find (ai_tab mGraphDeltasModel_alike) 30 = some (.iload 4, 32, 4, 0, 0, .null, []) := rfl
theorem iGraphDeltasModel_alike_32 : ai_find (ai_tab mGraphDeltasModel_alike) 32 = some (.iadd, 33, 0, 0, 0, .null, []) := rfl
theorem iGraphDeltasModel_alike_33 : ai_find (ai_tab mGraphDeltasModel_alike) 33 = some (.laload, 34, 0, 0, 0, .null, []) := rfl
theorem iGraphDeltasModel_alike_34 : ai_find (ai_tab mGraphDeltasModel_alike) 34 = some (.lcmp, 35, 0, 0, 0, .null, []) := rfl
theorem iGraphDeltasModel_alike_35 : ai_find (ai_tab mGraphDeltasModel_alike) 35 = some (.ifCond .ne 7, 38, 42, 0, 0, .null, []) := rfl
theorem iGraphDeltasModel_alike_38 : ai_find (ai_tab mGraphDeltasModel_alike) 38 = some (.iconst 1, 39, 0, 0, 0, .int (nI 1), []) := rfl
theorem iGraphDeltasModel_alike_39 : ai_find (ai_tab mGraphDeltasModel_alike) 39 = some (.goto 4, 42, 43, 0, 0, .null, []) := rfl
theorem iGraphDeltasModel_alike_42 : ai_find (ai_tab mGraphDeltasModel_alike) 42 = some (.iconst 0, 43, 0, 0, 0, .int (nI 0), []) := rfl
theorem iGraphDeltasModel_alike_43 : ai_find (ai_tab mGraphDeltasModel_alike) 43 = some (.ireturn, 44, 1, 0, 0, .null, []) := rfl
theorem iGraphDeltasModel_apply_0 : ai_find (ai_tab mGraphDeltasModel_apply) 0 = some (.aload_n 0, 1, 0, 0, 0, .null, []) := rfl
theorem iGraphDeltasModel_apply_1 : ai_find (ai_tab mGraphDeltasModel_apply) 1 = some (.iload_n 1, 2, 1, 0, 0, .null, []) := rfl
theorem iGraphDeltasModel_apply_2 : ai_find (ai_tab mGraphDeltasModel_apply) 2 = some (.invokevirtual 98, 5, 145, 2, 1, .ref 7, []) := rfl
theorem iGraphDeltasModel_apply_5 : ai_find (ai_tab mGraphDeltasModel_apply) 5 = some (.ifCond .ne 5, 8, 10, 0, 0, .null, []) := rfl
theorem iGraphDeltasModel_apply_8 : ai_find (ai_tab mGraphDeltasModel_apply) 8 = some (.iconst (-1), 9, 0, 0, 0, .int (-1), []) := rfl
theorem iGraphDeltasModel_apply_9 : ai_find (ai_tab mGraphDeltasModel_apply) 9 = some (.ireturn, 10, 0, 0, 0, .null, []) := rfl
theorem iGraphDeltasModel_apply_10 : ai_find (ai_tab mGraphDeltasModel_apply) 10 = some (.iload_n 1, 11, 1, 0, 0, .null, []) := rfl
theorem iGraphDeltasModel_apply_11 : ai_find (ai_tab mGraphDeltasModel_apply) 11 = some (.iconst 1, 12, 0, 0, 0, .int (nI 1), []) := rfl
theorem iGraphDeltasModel_apply_12 : ai_find (ai_tab mGraphDeltasModel_apply) 12 = some (.iadd, 13, 0, 0, 0, .null, []) := rfl
theorem iGraphDeltasModel_apply_13 : ai_find (ai_tab mGraphDeltasModel_apply) 13 = some (.istore_n 2, 14, 2, 0, 0, .null, []) := rfl
theorem iGraphDeltasModel_apply_14 : ai_find (ai_tab mGraphDeltasModel_apply) 14 = some (.aload_n 0, 15, 0, 0, 0, .null, []) := rfl
theorem iGraphDeltasModel_apply_15 : ai_find (ai_tab mGraphDeltasModel_apply) 15 = some (.iload_n 2, 16, 2, 0, 0, .null, []) := rfl
theorem iGraphDeltasModel_apply_16 : ai_find (ai_tab mGraphDeltasModel_apply) 16 = some (.invokevirtual 185, 19, 139, 2, 1, .ref 7, []) := rfl
theorem iGraphDeltasModel_apply_19 : ai_find (ai_tab mGraphDeltasModel_apply) 19 = some (.ifCond .ne 6, 22, 25, 0, 0, .null, []) := rfl
theorem iGraphDeltasModel_apply_22 : ai_find (ai_tab mGraphDeltasModel_apply) 22 = some (.bipush (-3), 24, 0, 0, 0, .int (-3), []) := rfl
theorem iGraphDeltasModel_apply_24 : ai_find (ai_tab mGraphDeltasModel_apply) 24 = some (.ireturn, 25, 0, 0, 0, .null, []) := rfl
theorem iGraphDeltasModel_apply_25 : ai_find (ai_tab mGraphDeltasModel_apply) 25 = some (.aload_n 0, 26, 0, 0, 0, .null, []) := rfl
theorem iGraphDeltasModel_apply_26 : ai_find (ai_tab mGraphDeltasModel_apply) 26 = some (.getfield 88, 29, 7, 2, 0, .null, []) := rfl
theorem iGraphDeltasModel_apply_29 : ai_find (ai_tab mGraphDeltasModel_apply) 29 = some (.bipush 8, 31, 0, 0, 0, .int (nI 8), []) := rfl
theorem iGraphDeltasModel_apply_31 : ai_find (ai_tab mGraphDeltasModel_apply) 31 = some (.if_icmp .ne 6, 34, 37, 0, 0, .null, []) := rfl
theorem iGraphDeltasModel_apply_34 : ai_find (ai_tab mGraphDeltasModel_apply) 34 = some (.bipush (-2), 36, 0, 0, 0, .int (-2), []) := rfl
theorem iGraphDeltasModel_apply_36 : ai_find (ai_tab mGraphDeltasModel_apply) 36 = some (.ireturn, 37, 0, 0, 0, .null, []) := rfl
theorem iGraphDeltasModel_apply_37 : ai_find (ai_tab mGraphDeltasModel_apply) 37 = some (.aload_n 0, 38, 0, 0, 0, .null, []) := rfl
theorem iGraphDeltasModel_apply_38 : ai_find (ai_tab mGraphDeltasModel_apply) 38 = some (.iload_n 2, 39, 2, 0, 0, .null, []) := rfl
theorem iGraphDeltasModel_apply_39 : ai_find (ai_tab mGraphDeltasModel_apply) 39 = some (.bipush 9, 41, 0, 0, 0, .int (nI 9), []) := rfl
theorem iGraphDeltasModel_apply_41 : ai_find (ai_tab mGraphDeltasModel_apply) 41 = some (.invokevirtual 91, 44, 128, 3, 1, .ref 7, []) := rfl
theorem iGraphDeltasModel_apply_44 : ai_find (ai_tab mGraphDeltasModel_apply) 44 = some (.iconst 0, 45, 0, 0, 0, .int (nI 0), []) := rfl
theorem iGraphDeltasModel_apply_45 : ai_find (ai_tab mGraphDeltasModel_apply) 45 = some (.istore_n 3, 46, 3, 0, 0, .null, []) := rfl
theorem iGraphDeltasModel_apply_46 : ai_find (ai_tab mGraphDeltasModel_apply) 46 = some (.iload_n 3, 47, 3, 0, 0, .null, []) := rfl
theorem iGraphDeltasModel_apply_47 : ai_find (ai_tab mGraphDeltasModel_apply) 47 = some (.aload_n 0, 48, 0, 0, 0, .null, []) := rfl
theorem iGraphDeltasModel_apply_48 : ai_find (ai_tab mGraphDeltasModel_apply) 48 = some (.getfield 31, 51, 7, 7, 0, .null, []) := rfl
theorem iGraphDeltasModel_apply_51 : ai_find (ai_tab mGraphDeltasModel_apply) 51 = some (.iconst 0, 52, 0, 0, 0, .int (nI 0), []) := rfl
theorem iGraphDeltasModel_apply_52 : ai_find (ai_tab mGraphDeltasModel_apply) 52 = some (.iaload, 53, 0, 0, 0, .null, []) := rfl
theorem iGraphDeltasModel_apply_53 : ai_find (ai_tab mGraphDeltasModel_apply) 53 = some (.if_icmp .ge 119, 56, 172, 0, 0, .null, []) := rfl
theorem iGraphDeltasModel_apply_56 : ai_find (ai_tab mGraphDeltasModel_apply) 56 = some (.sipush 144, 59, 0, 0, 0, .int (nI 144), []) := rfl
theorem iGraphDeltasModel_apply_59 : ai_find (ai_tab mGraphDeltasModel_apply) 59 = some (.aload_n 0, 60, 0, 0, 0, .null, []) := rfl
theorem iGraphDeltasModel_apply_60 : ai_find (ai_tab mGraphDeltasModel_apply) 60 = some (.getfield 37, 63, 7, 9, 0, .null, []) := rfl
theorem iGraphDeltasModel_apply_63 : ai_find (ai_tab mGraphDeltasModel_apply) 63 = some (.iload_n 3, 64, 3, 0, 0, .null, []) := rfl
theorem iGraphDeltasModel_apply_64 : ai_find (ai_tab mGraphDeltasModel_apply) 64 = some (.iaload, 65, 0, 0, 0, .null, []) := rfl
theorem iGraphDeltasModel_apply_65 : ai_find (ai_tab mGraphDeltasModel_apply) 65 = some (.iadd, 66, 0, 0, 0, .null, []) := rfl
theorem iGraphDeltasModel_apply_66 : ai_find (ai_tab mGraphDeltasModel_apply) 66 = some (.istore 4, 68, 4, 0, 0, .null, []) := rfl
theorem iGraphDeltasModel_apply_68 : ai_find (ai_tab mGraphDeltasModel_apply) 68 = some (.aload_n 0, 69, 0, 0, 0, .null, []) := rfl
theorem iGraphDeltasModel_apply_69 : ai_find (ai_tab mGraphDeltasModel_apply) 69 = some (.getfield 34, 72, 7, 8, 0, .null, []) := rfl
theorem iGraphDeltasModel_apply_72 : ai_find (ai_tab mGraphDeltasModel_apply) 72 = some (.iload_n 3, 73, 3, 0, 0, .null, []) := rfl
theorem iGraphDeltasModel_apply_73 : ai_find (ai_tab mGraphDeltasModel_apply) 73 = some (.iaload, 74, 0, 0, 0, .null, []) := rfl
theorem iGraphDeltasModel_apply_74 : ai_find (ai_tab mGraphDeltasModel_apply) 74 = some (.iconst 1, 75, 0, 0, 0, .int (nI 1), []) := rfl
theorem iGraphDeltasModel_apply_75 : ai_find (ai_tab mGraphDeltasModel_apply) 75 = some (.if_icmp .ne 20, 78, 95, 0, 0, .null, []) := rfl
theorem iGraphDeltasModel_apply_78 : ai_find (ai_tab mGraphDeltasModel_apply) 78 = some (.aload_n 0, 79, 0, 0, 0, .null, []) := rfl
theorem iGraphDeltasModel_apply_79 : ai_find (ai_tab mGraphDeltasModel_apply) 79 = some (.getfield 17, 82, 7, 3, 0, .null, []) := rfl
theorem iGraphDeltasModel_apply_82 : ai_find (ai_tab mGraphDeltasModel_apply) 82 = some (.iload 4, 84, 4, 0, 0, .null, []) := rfl
theorem iGraphDeltasModel_apply_84 : ai_find (ai_tab mGraphDeltasModel_apply) 84 = some (.iconst 1, 85, 0, 0, 0, .int (nI 1), []) := rfl
theorem iGraphDeltasModel_apply_85 : ai_find (ai_tab mGraphDeltasModel_apply) 85 = some (.bastore, 86, 0, 0, 0, .null, []) := rfl
theorem iGraphDeltasModel_apply_86 : ai_find (ai_tab mGraphDeltasModel_apply) 86 = some (.aload_n 0, 87, 0, 0, 0, .null, []) := rfl
theorem iGraphDeltasModel_apply_87 : ai_find (ai_tab mGraphDeltasModel_apply) 87 = some (.iload 4, 89, 4, 0, 0, .null, []) := rfl
theorem iGraphDeltasModel_apply_89 : ai_find (ai_tab mGraphDeltasModel_apply) 89 = some (.invokevirtual 67, 92, 126, 2, 1, .ref 7, []) := rfl
theorem iGraphDeltasModel_apply_92 : ai_find (ai_tab mGraphDeltasModel_apply) 92 = some (.goto 74, 95, 166, 0, 0, .null, []) := rfl
theorem iGraphDeltasModel_apply_95 : ai_find (ai_tab mGraphDeltasModel_apply) 95 = some (.aload_n 0, 96, 0, 0, 0, .null, []) := rfl
theorem iGraphDeltasModel_apply_96 : ai_find (ai_tab mGraphDeltasModel_apply) 96 = some (.getfield 34, 99, 7, 8, 0, .null, []) := rfl
theorem iGraphDeltasModel_apply_99 : ai_find (ai_tab mGraphDeltasModel_apply) 99 = some (.iload_n 3, 100, 3, 0, 0, .null, []) := rfl
theorem iGraphDeltasModel_apply_100 : ai_find (ai_tab mGraphDeltasModel_apply) 100 = some (.iaload, 101, 0, 0, 0, .null, []) := rfl
theorem iGraphDeltasModel_apply_101 : ai_find (ai_tab mGraphDeltasModel_apply) 101 = some (.iconst 2, 102, 0, 0, 0, .int (nI 2), []) := rfl
set_option maxRecDepth 20000 in theorem iGraphDeltasModel_apply_102 : ai_find (ai_tab mGraphDeltasModel_apply) 102 = some (.if_icmp .ne 64, 105, 166, 0, 0, .null, []) := rfl
set_option maxRecDepth 20000 in theorem iGraphDeltasModel_apply_105 : ai_find (ai_tab mGraphDeltasModel_apply) 105 = some (.aload_n 0, 106, 0, 0, 0, .null, []) := rfl
set_option maxRecDepth 20000 in theorem iGraphDeltasModel_apply_106 : ai_find (ai_tab mGraphDeltasModel_apply) 106 = some (.getfield 24, 109, 7, 5, 0, .null, []) := rfl
set_option maxRecDepth 20000 in theorem iGraphDeltasModel_apply_109 : ai_find (ai_tab mGraphDeltasModel_apply) 109 = some (.bipush 6, 111, 0, 0, 0, .int (nI 6), []) := rfl
set_option maxRecDepth 20000 in theorem iGraphDeltasModel_apply_111 : ai_find (ai_tab mGraphDeltasModel_apply) 111 = some (.iload 4, 113, 4, 0, 0, .null, []) := rfl
set_option maxRecDepth 20000 in theorem iGraphDeltasModel_apply_113 : ai_find (ai_tab mGraphDeltasModel_apply) 113 = some (.imul, 114, 0, 0, 0, .null, []) := rfl
set_option maxRecDepth 20000 in theorem iGraphDeltasModel_apply_114 : ai_find (ai_tab mGraphDeltasModel_apply) 114 = some (.aload_n 0, 115, 0, 0, 0, .null, []) := rfl
set_option maxRecDepth 20000 in theorem iGraphDeltasModel_apply_115 : ai_find (ai_tab mGraphDeltasModel_apply) 115 = some (.getfield 40, 118, 7, 10, 0, .null, []) := rfl
set_option maxRecDepth 20000 in theorem iGraphDeltasModel_apply_118 : ai_find (ai_tab mGraphDeltasModel_apply) 118 = some (.iload_n 3, 119, 3, 0, 0, .null, []) := rfl
set_option maxRecDepth 20000 in theorem iGraphDeltasModel_apply_119 : ai_find (ai_tab mGraphDeltasModel_apply) 119 = some (.iaload, 120, 0, 0, 0, .null, []) := rfl
set_option maxRecDepth 20000 in theorem iGraphDeltasModel_apply_120 : ai_find (ai_tab mGraphDeltasModel_apply) 120 = some (.iadd, 121, 0, 0, 0, .null, []) := rfl
set_option maxRecDepth 20000 in theorem iGraphDeltasModel_apply_121 : ai_find (ai_tab mGraphDeltasModel_apply) 121 = some (.aload_n 0, 122, 0, 0, 0, .null, []) := rfl
set_option maxRecDepth 20000 in theorem iGraphDeltasModel_apply_122 : ai_find (ai_tab mGraphDeltasModel_apply) 122 = some (.getfield 43, 125, 7, 11, 0, .null, []) := rfl
set_option maxRecDepth 20000 in theorem iGraphDeltasModel_apply_125 : ai_find (ai_tab mGraphDeltasModel_apply) 125 = some (.iload_n 3, 126, 3, 0, 0, .null, []) := rfl
set_option maxRecDepth 20000 in theorem iGraphDeltasModel_apply_126 : ai_find (ai_tab mGraphDeltasModel_apply) 126 = some (.iaload, 127, 0, 0, 0, .null, []) := rfl
set_option maxRecDepth 20000 in theorem iGraphDeltasModel_apply_127 : ai_find (ai_tab mGraphDeltasModel_apply) 127 = some (.ifCond .ne 9, 130, 136, 0, 0, .null, []) := rfl
set_option maxRecDepth 20000 in theorem iGraphDeltasModel_apply_130 : ai_find (ai_tab mGraphDeltasModel_apply) 130 = some (.ldc2_w 71, 133, 0, 0, 0, .long 8589934592, []) := rfl
set_option maxRecDepth 20000 in theorem iGraphDeltasModel_apply_133 : ai_find (ai_tab mGraphDeltasModel_apply) 133 = some (.goto 32, 136, 165, 0, 0, .null, []) := rfl
set_option maxRecDepth 20000 in theorem iGraphDeltasModel_apply_136 : ai_find (ai_tab mGraphDeltasModel_apply) 136 = some (.aload_n 0, 137, 0, 0, 0, .null, []) := rfl
set_option maxRecDepth 20000 in theorem iGraphDeltasModel_apply_137 : ai_find (ai_tab mGraphDeltasModel_apply) 137 = some (.getfield 43, 140, 7, 11, 0, .null, []) := rfl
set_option maxRecDepth 20000 in theorem iGraphDeltasModel_apply_140 : ai_find (ai_tab mGraphDeltasModel_apply) 140 = some (.iload_n 3, 141, 3, 0, 0, .null, []) := rfl
set_option maxRecDepth 20000 in theorem iGraphDeltasModel_apply_141 : ai_find (ai_tab mGraphDeltasModel_apply) 141 = some (.iaload, 142, 0, 0, 0, .null, []) := rfl
set_option maxRecDepth 20000 in theorem iGraphDeltasModel_apply_142 : ai_find (ai_tab mGraphDeltasModel_apply) 142 = some (.iconst 2, 143, 0, 0, 0, .int (nI 2), []) := rfl
set_option maxRecDepth 20000 in theorem iGraphDeltasModel_apply_143 : ai_find (ai_tab mGraphDeltasModel_apply) 143 = some (.if_icmp .ne 16, 146, 159, 0, 0, .null, []) := rfl
set_option maxRecDepth 20000 in theorem iGraphDeltasModel_apply_146 : ai_find (ai_tab mGraphDeltasModel_apply) 146 = some (.ldc2_w 84, 149, 0, 0, 0, .long 4294967296, []) := rfl
set_option maxRecDepth 20000 in theorem iGraphDeltasModel_apply_149 : ai_find (ai_tab mGraphDeltasModel_apply) 149 = some (.aload_n 0, 150, 0, 0, 0, .null, []) := rfl
set_option maxRecDepth 20000 in theorem iGraphDeltasModel_apply_150 : ai_find (ai_tab mGraphDeltasModel_apply) 150 = some (.getfield 46, 153, 7, 12, 0, .null, []) := rfl
set_option maxRecDepth 20000 in theorem iGraphDeltasModel_apply_153 : ai_find (ai_tab mGraphDeltasModel_apply) 153 = some (.iload_n 3, 154, 3, 0, 0, .null, []) := rfl
set_option maxRecDepth 20000 in theorem iGraphDeltasModel_apply_154 : ai_find (ai_tab mGraphDeltasModel_apply) 154 = some (.laload, 155, 0, 0, 0, .null, []) := rfl
set_option maxRecDepth 20000 in theorem iGraphDeltasModel_apply_155 : ai_find (ai_tab mGraphDeltasModel_apply) 155 = some (.ladd, 156, 0, 0, 0, .null, []) := rfl
set_option maxRecDepth 20000 in theorem iGraphDeltasModel_apply_156 : ai_find (ai_tab mGraphDeltasModel_apply) 156 = some (.goto 9, 159, 165, 0, 0, .null, []) := rfl
set_option maxRecDepth 20000 in theorem iGraphDeltasModel_apply_159 : ai_find (ai_tab mGraphDeltasModel_apply) 159 = some (.aload_n 0, 160, 0, 0, 0, .null, []) := rfl
set_option maxRecDepth 20000 in theorem iGraphDeltasModel_apply_160 : ai_find (ai_tab mGraphDeltasModel_apply) 160 = some (.getfield 46, 163, 7, 12, 0, .null, []) := rfl
set_option maxRecDepth 20000 in theorem iGraphDeltasModel_apply_163 : ai_find (ai_tab mGraphDeltasModel_apply) 163 = some (.iload_n 3, 164, 3, 0, 0, .null, []) := rfl
set_option maxRecDepth 20000 in theorem iGraphDeltasModel_apply_164 : ai_find (ai_tab mGraphDeltasModel_apply) 164 = some (.laload, 165, 0, 0, 0, .null, []) := rfl
set_option maxRecDepth 20000 in theorem iGraphDeltasModel_apply_165 : ai_find (ai_tab mGraphDeltasModel_apply) 165 = some (.lastore, 166, 0, 0, 0, .null, []) := rfl
set_option maxRecDepth 20000 in theorem iGraphDeltasModel_apply_166 : ai_find (ai_tab mGraphDeltasModel_apply) 166 = some (.iinc 3 1, 169, 3, 0, 0, .int (nI 1), []) := rfl
set_option maxRecDepth 20000 in theorem iGraphDeltasModel_apply_169 : ai_find (ai_tab mGraphDeltasModel_apply) 169 = some (.goto (-123), 172, 46, 0, 0, .null, []) := rfl
set_option maxRecDepth 20000 in theorem iGraphDeltasModel_apply_172 : ai_find (ai_tab mGraphDeltasModel_apply) 172 = some (.iconst 0, 173, 0, 0, 0, .int (nI 0), []) := rfl
set_option maxRecDepth 20000 in theorem iGraphDeltasModel_apply_173 : ai_find (ai_tab mGraphDeltasModel_apply) 173 = some (.istore_n 3, 174, 3, 0, 0, .null, []) := rfl
set_option maxRecDepth 20000 in theorem iGraphDeltasModel_apply_174 : ai_find (ai_tab mGraphDeltasModel_apply) 174 = some (.iload_n 3, 175, 3, 0, 0, .null, []) := rfl
set_option maxRecDepth 20000 in theorem iGraphDeltasModel_apply_175 : ai_find (ai_tab mGraphDeltasModel_apply) 175 = some (.bipush 16, 177, 0, 0, 0, .int (nI 16), []) := rfl
set_option maxRecDepth 20000 in theorem iGraphDeltasModel_apply_177 : ai_find (ai_tab mGraphDeltasModel_apply) 177 = some (.if_icmp .ge 37, 180, 214, 0, 0, .null, []) := rfl
set_option maxRecDepth 20000 in theorem iGraphDeltasModel_apply_180 : ai_find (ai_tab mGraphDeltasModel_apply) 180 = some (.aload_n 0, 181, 0, 0, 0, .null, []) := rfl
set_option maxRecDepth 20000 in theorem iGraphDeltasModel_apply_181 : ai_find (ai_tab mGraphDeltasModel_apply) 181 = some (.getfield 17, 184, 7, 3, 0, .null, []) := rfl
set_option maxRecDepth 20000 in theorem iGraphDeltasModel_apply_184 : ai_find (ai_tab mGraphDeltasModel_apply) 184 = some (.sipush 144, 187, 0, 0, 0, .int (nI 144), []) := rfl
set_option maxRecDepth 20000 in theorem iGraphDeltasModel_apply_187 : ai_find (ai_tab mGraphDeltasModel_apply) 187 = some (.iload_n 3, 188, 3, 0, 0, .null, []) := rfl
set_option maxRecDepth 20000 in theorem iGraphDeltasModel_apply_188 : ai_find (ai_tab mGraphDeltasModel_apply) 188 = some (.iadd, 189, 0, 0, 0, .null, []) := rfl
set_option maxRecDepth 20000 in theorem iGraphDeltasModel_apply_189 : ai_find (ai_tab mGraphDeltasModel_apply) 189 = some (.baload, 190, 0, 0, 0, .null, []) := rfl
set_option maxRecDepth 20000 in theorem iGraphDeltasModel_apply_190 : ai_find (ai_tab mGraphDeltasModel_apply) 190 = some (.ifCond .eq 18, 193, 208, 0, 0, .null, []) := rfl
set_option maxRecDepth 20000 in theorem iGraphDeltasModel_apply_193 : ai_find (ai_tab mGraphDeltasModel_apply) 193 = some (.aload_n 0, 194, 0, 0, 0, .null, []) := rfl
set_option maxRecDepth 20000 in theorem iGraphDeltasModel_apply_194 : ai_find (ai_tab mGraphDeltasModel_apply) 194 = some (.getfield 13, 197, 7, 1, 0, .null, []) := rfl
set_option maxRecDepth 20000 in theorem iGraphDeltasModel_apply_197 : ai_find (ai_tab mGraphDeltasModel_apply) 197 = some (.iload_n 3, 198, 3, 0, 0, .null, []) := rfl
set_option maxRecDepth 20000 in theorem iGraphDeltasModel_apply_198 : ai_find (ai_tab mGraphDeltasModel_apply) 198 = some (.baload, 199, 0, 0, 0, .null, []) := rfl
set_option maxRecDepth 20000 in theorem iGraphDeltasModel_apply_199 : ai_find (ai_tab mGraphDeltasModel_apply) 199 = some (.ifCond .eq 9, 202, 208, 0, 0, .null, []) := rfl
set_option maxRecDepth 20000 in theorem iGraphDeltasModel_apply_202 : ai_find (ai_tab mGraphDeltasModel_apply) 202 = some (.aload_n 0, 203, 0, 0, 0, .null, []) := rfl
set_option maxRecDepth 20000 in theorem iGraphDeltasModel_apply_203 : ai_find (ai_tab mGraphDeltasModel_apply) 203 = some (.iload_n 2, 204, 2, 0, 0, .null, []) := rfl
set_option maxRecDepth 20000 in theorem iGraphDeltasModel_apply_204 : ai_find (ai_tab mGraphDeltasModel_apply) 204 = some (.iload_n 3, 205, 3, 0, 0, .null, []) := rfl
set_option maxRecDepth 20000 in theorem iGraphDeltasModel_apply_205 : ai_find (ai_tab mGraphDeltasModel_apply) 205 = some (.invokevirtual 188, 208, 163, 3, 1, .ref 7, []) := rfl
set_option maxRecDepth 20000 in theorem iGraphDeltasModel_apply_208 : ai_find (ai_tab mGraphDeltasModel_apply) 208 = some (.iinc 3 1, 211, 3, 0, 0, .int (nI 1), []) := rfl
set_option maxRecDepth 20000 in theorem iGraphDeltasModel_apply_211 : ai_find (ai_tab mGraphDeltasModel_apply) 211 = some (.goto (-37), 214, 174, 0, 0, .null, []) := rfl
set_option maxRecDepth 20000 in theorem iGraphDeltasModel_apply_214 : ai_find (ai_tab mGraphDeltasModel_apply) 214 = some (.aload_n 0, 215, 0, 0, 0, .null, []) := rfl
set_option maxRecDepth 20000 in theorem iGraphDeltasModel_apply_215 : ai_find (ai_tab mGraphDeltasModel_apply) 215 = some (.bipush 9, 217, 0, 0, 0, .int (nI 9), []) := rfl
set_option maxRecDepth 20000 in theorem iGraphDeltasModel_apply_217 : ai_find (ai_tab mGraphDeltasModel_apply) 217 = some (.invokevirtual 95, 220, 158, 2, 1, .ref 7, []) := rfl
set_option maxRecDepth 20000 in theorem iGraphDeltasModel_apply_220 : ai_find (ai_tab mGraphDeltasModel_apply) 220 = some (.aload_n 0, 221, 0, 0, 0, .null, []) := rfl
set_option maxRecDepth 20000 in theorem iGraphDeltasModel_apply_221 : ai_find (ai_tab mGraphDeltasModel_apply) 221 = some (.dup, 222, 0, 0, 0, .null, []) := rfl
set_option maxRecDepth 20000 in theorem iGraphDeltasModel_apply_222 : ai_find (ai_tab mGraphDeltasModel_apply) 222 = some (.getfield 88, 225, 7, 2, 0, .null, []) := rfl
set_option maxRecDepth 20000 in theorem iGraphDeltasModel_apply_225 : ai_find (ai_tab mGraphDeltasModel_apply) 225 = some (.iconst 1, 226, 0, 0, 0, .int (nI 1), []) := rfl
set_option maxRecDepth 20000 in theorem iGraphDeltasModel_apply_226 : ai_find (ai_tab mGraphDeltasModel_apply) 226 = some (.iadd, 227, 0, 0, 0, .null, []) := rfl
set_option maxRecDepth 20000 in theorem iGraphDeltasModel_apply_227 : ai_find (ai_tab mGraphDeltasModel_apply) 227 = some (.putfield 88, 230, 7, 2, 0, .null, []) := rfl
set_option maxRecDepth 20000 in theorem iGraphDeltasModel_apply_230 : ai_find (ai_tab mGraphDeltasModel_apply) 230 = some (.aload_n 0, 231, 0, 0, 0, .null, []) := rfl
set_option maxRecDepth 20000 in theorem iGraphDeltasModel_apply_231 : ai_find (ai_tab mGraphDeltasModel_apply) 231 = some (.bipush 9, 233, 0, 0, 0, .int (nI 9), []) := rfl
set_option maxRecDepth 20000 in theorem iGraphDeltasModel_apply_233 : ai_find (ai_tab mGraphDeltasModel_apply) 233 = some (.aload_n 0, 234, 0, 0, 0, .null, []) := rfl
set_option maxRecDepth 20000 in theorem iGraphDeltasModel_apply_234 : ai_find (ai_tab mGraphDeltasModel_apply) 234 = some (.getfield 88, 237, 7, 2, 0, .null, []) := rfl
set_option maxRecDepth 20000 in theorem iGraphDeltasModel_apply_237 : ai_find (ai_tab mGraphDeltasModel_apply) 237 = some (.invokevirtual 91, 240, 128, 3, 1, .ref 7, []) := rfl
set_option maxRecDepth 20000 in theorem iGraphDeltasModel_apply_240 : ai_find (ai_tab mGraphDeltasModel_apply) 240 = some (.aload_n 0, 241, 0, 0, 0, .null, []) := rfl
set_option maxRecDepth 20000 in theorem iGraphDeltasModel_apply_241 : ai_find (ai_tab mGraphDeltasModel_apply) 241 = some (.getfield 88, 244, 7, 2, 0, .null, []) := rfl
set_option maxRecDepth 20000 in theorem iGraphDeltasModel_apply_244 : ai_find (ai_tab mGraphDeltasModel_apply) 244 = some (.iconst 1, 245, 0, 0, 0, .int (nI 1), []) := rfl
set_option maxRecDepth 20000 in theorem iGraphDeltasModel_apply_245 : ai_find (ai_tab mGraphDeltasModel_apply) 245 = some (.isub, 246, 0, 0, 0, .null, []) := rfl
set_option maxRecDepth 20000 in theorem iGraphDeltasModel_apply_246 : ai_find (ai_tab mGraphDeltasModel_apply) 246 = some (.ireturn, 247, 0, 0, 0, .null, []) := rfl
theorem iGraphDeltasModel_available_0 : ai_find (ai_tab mGraphDeltasModel_available) 0 = some (.aload_n 0, 1, 0, 0, 0, .null, []) := rfl
theorem iGraphDeltasModel_available_1 : ai_find (ai_tab mGraphDeltasModel_available) 1 = some (.getfield 17, 4, 7, 3, 0, .null, []) := rfl
theorem iGraphDeltasModel_available_4 : ai_find (ai_tab mGraphDeltasModel_available) 4 = some (.bipush 16, 6, 0, 0, 0, .int (nI 16), []) := rfl
theorem iGraphDeltasModel_available_6 : ai_find (ai_tab mGraphDeltasModel_available) 6 = some (.iload_n 1, 7, 1, 0, 0, .null, []) := rfl
theorem iGraphDeltasModel_available_7 : ai_find (ai_tab mGraphDeltasModel_available) 7 = some (.imul, 8, 0, 0, 0, .null, []) := rfl
theorem iGraphDeltasModel_available_8 : ai_find (ai_tab mGraphDeltasModel_available) 8 = some (.iload_n 2, 9, 2, 0, 0, .null, []) := rfl
theorem iGraphDeltasModel_available_9 : ai_find (ai_tab mGraphDeltasModel_available) 9 = some (.iadd, 10, 0, 0, 0, .null, []) := rfl
theorem iGraphDeltasModel_available_10 : ai_find (ai_tab mGraphDeltasModel_available) 10 = some (.baload, 11, 0, 0, 0, .null, []) := rfl
theorem iGraphDeltasModel_available_11 : ai_find (ai_tab mGraphDeltasModel_available) 11 = some (.ifCond .ne 11, 14, 22, 0, 0, .null, []) := rfl
theorem iGraphDeltasModel_available_14 : ai_find (ai_tab mGraphDeltasModel_available) 14 = some (.aload_n 0, 15, 0, 0, 0, .null, []) := rfl
theorem iGraphDeltasModel_available_15 : ai_find (ai_tab mGraphDeltasModel_available) 15 = some (.iload_n 2, 16, 2, 0, 0, .null, []) := rfl
theorem iGraphDeltasModel_available_16 : ai_find (ai_tab mGraphDeltasModel_available) 16 = some (.invokevirtual 167, 19, 129, 2, 1, .ref 7, []) := rfl
theorem iGraphDeltasModel_available_19 : ai_find (ai_tab mGraphDeltasModel_available) 19 = some (.ifCond .eq 7, 22, 26, 0, 0, .null, []) := rfl
theorem iGraphDeltasModel_available_22 : ai_find (ai_tab mGraphDeltasModel_available) 22 = some (.iconst 1, 23, 0, 0, 0, .int (nI 1), []) := rfl
theorem iGraphDeltasModel_available_23 : ai_find (ai_tab mGraphDeltasModel_available) 23 = some (.goto 4, 26, 27, 0, 0, .null, []) := rfl
theorem iGraphDeltasModel_available_26 : ai_find (ai_tab mGraphDeltasModel_available) 26 = some (.iconst 0, 27, 0, 0, 0, .int (nI 0), []) := rfl
theorem iGraphDeltasModel_available_27 : ai_find (ai_tab mGraphDeltasModel_available) 27 = some (.ireturn, 28, 1, 0, 0, .null, []) := rfl
theorem iGraphDeltasModel_byteAt_0 : ai_find (ai_tab mGraphDeltasModel_byteAt) 0 = some (.iload_n 1, 1, 1, 0, 0, .null, []) := rfl
theorem iGraphDeltasModel_byteAt_1 : ai_find (ai_tab mGraphDeltasModel_byteAt) 1 = some (.ifCond .lt 11, 4, 12, 0, 0, .null, []) := rfl
theorem iGraphDeltasModel_byteAt_4 : ai_find (ai_tab mGraphDeltasModel_byteAt) 4 = some (.iload_n 1, 5, 1, 0, 0, .null, []) := rfl
theorem iGraphDeltasModel_byteAt_5 : ai_find (ai_tab mGraphDeltasModel_byteAt) 5 = some (.aload_n 0, 6, 0, 0, 0, .null, []) := rfl
theorem iGraphDeltasModel_byteAt_6 : ai_find (ai_tab mGraphDeltasModel_byteAt) 6 = some (.getfield 210, 9, 7, 18, 0, .null, []) := rfl
theorem iGraphDeltasModel_byteAt_9 : ai_find (ai_tab mGraphDeltasModel_byteAt) 9 = some (.if_icmp .lt 7, 12, 16, 0, 0, .null, []) := rfl
theorem iGraphDeltasModel_byteAt_12 : ai_find (ai_tab mGraphDeltasModel_byteAt) 12 = some (.iconst (-1), 13, 0, 0, 0, .int (-1), []) := rfl
theorem iGraphDeltasModel_byteAt_13 : ai_find (ai_tab mGraphDeltasModel_byteAt) 13 = some (.goto 9, 16, 22, 0, 0, .null, []) := rfl
theorem iGraphDeltasModel_byteAt_16 : ai_find (ai_tab mGraphDeltasModel_byteAt) 16 = some (.aload_n 0, 17, 0, 0, 0, .null, []) := rfl
theorem iGraphDeltasModel_byteAt_17 : ai_find (ai_tab mGraphDeltasModel_byteAt) 17 = some (.getfield 61, 20, 7, 19, 0, .null, []) := rfl
theorem iGraphDeltasModel_byteAt_20 : ai_find (ai_tab mGraphDeltasModel_byteAt) 20 = some (.iload_n 1, 21, 1, 0, 0, .null, []) := rfl
theorem iGraphDeltasModel_byteAt_21 : ai_find (ai_tab mGraphDeltasModel_byteAt) 21 = some (.iaload, 22, 0, 0, 0, .null, []) := rfl
theorem iGraphDeltasModel_byteAt_22 : ai_find (ai_tab mGraphDeltasModel_byteAt) 22 = some (.ireturn, 23, 0, 0, 0, .null, []) := rfl
theorem iGraphDeltasModel_clash_0 : ai_find (ai_tab mGraphDeltasModel_clash) 0 = some (.aload_n 0, 1, 0, 0, 0, .null, []) := rfl
theorem iGraphDeltasModel_clash_1 : ai_find (ai_tab mGraphDeltasModel_clash) 1 = some (.getfield 34, 4, 7, 8, 0, .null, []) := rfl
theorem iGraphDeltasModel_clash_4 : ai_find (ai_tab mGraphDeltasModel_clash) 4 = some (.iload_n 1, 5, 1, 0, 0, .null, []) := rfl
theorem iGraphDeltasModel_clash_5 : ai_find (ai_tab mGraphDeltasModel_clash) 5 = some (.iaload, 6, 0, 0, 0, .null, []) := rfl
theorem iGraphDeltasModel_clash_6 : ai_find (ai_tab mGraphDeltasModel_clash) 6 = some (.aload_n 0, 7, 0, 0, 0, .null, []) := rfl
theorem iGraphDeltasModel_clash_7 : ai_find (ai_tab mGraphDeltasModel_clash) 7 = some (.getfield 34, 10, 7, 8, 0, .null, []) := rfl
theorem iGraphDeltasModel_clash_10 : ai_find (ai_tab mGraphDeltasModel_clash) 10 = some (.iload_n 2, 11, 2, 0, 0, .null, []) := rfl
theorem iGraphDeltasModel_clash_11 : ai_find (ai_tab mGraphDeltasModel_clash) 11 = some (.iaload, 12, 0, 0, 0, .null, []) := rfl
theorem iGraphDeltasModel_clash_12 : ai_find (ai_tab mGraphDeltasModel_clash) 12 = some (.if_icmp .ne 37, 15, 49, 0, 0, .null, []) := rfl
theorem iGraphDeltasModel_clash_15 : ai_find (ai_tab mGraphDeltasModel_clash) 15 = some (.aload_n 0, 16, 0, 0, 0, .null, []) := rfl
theorem iGraphDeltasModel_clash_16 : ai_find (ai_tab mGraphDeltasModel_clash) 16 = some (.getfield 37, 19, 7, 9, 0, .null, []) := rfl
theorem iGraphDeltasModel_clash_19 : ai_find (ai_tab mGraphDeltasModel_clash) 19 = some (.iload_n 1, 20, 1, 0, 0, .null, []) := rfl
theorem iGraphDeltasModel_clash_20 : ai_find (ai_tab mGraphDeltasModel_clash) 20 = some (.iaload, 21, 0, 0, 0, .null, []) := rfl
theorem iGraphDeltasModel_clash_21 : ai_find (ai_tab mGraphDeltasModel_clash) 21 = some (.aload_n 0, 22, 0, 0, 0, .null, []) := rfl
theorem iGraphDeltasModel_clash_22 : ai_find (ai_tab mGraphDeltasModel_clash) 22 = some (.getfield 37, 25, 7, 9, 0, .null, []) := rfl
theorem iGraphDeltasModel_clash_25 : ai_find (ai_tab mGraphDeltasModel_clash) 25 = some (.iload_n 2, 26, 2, 0, 0, .null, []) := rfl
theorem iGraphDeltasModel_clash_26 : ai_find (ai_tab mGraphDeltasModel_clash) 26 = some (.iaload, 27, 0, 0, 0, .null, []) := rfl
theorem iGraphDeltasModel_clash_27 : ai_find (ai_tab mGraphDeltasModel_clash) 27 = some (.if_icmp .ne 22, 30, 49, 0, 0, .null, []) := rfl
theorem iGraphDeltasModel_clash_30 : ai_find (ai_tab mGraphDeltasModel_clash) 30 = some (.aload_n 0, 31, 0, 0, 0, .null, []) := rfl
theorem iGraphDeltasModel_clash_31 : ai_find (ai_tab mGraphDeltasModel_clash) 31 = some (.getfield 34, 34, 7, 8, 0, .null, []) := rfl
theorem iGraphDeltasModel_clash_34 : ai_find (ai_tab mGraphDeltasModel_clash) 34 = some (.iload_n 1, 35, 1, 0, 0, .null, []) := rfl
theorem iGraphDeltasModel_clash_35 : ai_find (ai_tab mGraphDeltasModel_clash) 35 = some (.iaload, 36, 0, 0, 0, .null, []) := rfl
theorem iGraphDeltasModel_clash_36 : ai_find (ai_tab mGraphDeltasModel_clash) 36 = some (.iconst 1, 37, 0, 0, 0, .int (nI 1), []) := rfl
theorem iGraphDeltasModel_clash_37 : ai_find (ai_tab mGraphDeltasModel_clash) 37 = some (.if_icmp .eq 12, 40, 49, 0, 0, .null, []) := rfl
theorem iGraphDeltasModel_clash_40 : ai_find (ai_tab mGraphDeltasModel_clash) 40 = some (.aload_n 0, 41, 0, 0, 0, .null, []) := rfl
theorem iGraphDeltasModel_clash_41 : ai_find (ai_tab mGraphDeltasModel_clash) 41 = some (.iload_n 1, 42, 1, 0, 0, .null, []) := rfl
theorem iGraphDeltasModel_clash_42 : ai_find (ai_tab mGraphDeltasModel_clash) 42 = some (.iload_n 2, 43, 2, 0, 0, .null, []) := rfl
theorem iGraphDeltasModel_clash_43 : ai_find (ai_tab mGraphDeltasModel_clash) 43 = some (.invokevirtual 145, 46, 136, 3, 1, .ref 7, []) := rfl
theorem iGraphDeltasModel_clash_46 : ai_find (ai_tab mGraphDeltasModel_clash) 46 = some (.ifCond .eq 5, 49, 51, 0, 0, .null, []) := rfl
theorem iGraphDeltasModel_clash_49 : ai_find (ai_tab mGraphDeltasModel_clash) 49 = some (.iconst 0, 50, 0, 0, 0, .int (nI 0), []) := rfl
theorem iGraphDeltasModel_clash_50 : ai_find (ai_tab mGraphDeltasModel_clash) 50 = some (.ireturn, 51, 1, 0, 0, .null, []) := rfl
theorem iGraphDeltasModel_clash_51 : ai_find (ai_tab mGraphDeltasModel_clash) 51 = some (.aload_n 0, 52, 0, 0, 0, .null, []) := rfl
theorem iGraphDeltasModel_clash_52 : ai_find (ai_tab mGraphDeltasModel_clash) 52 = some (.getfield 34, 55, 7, 8, 0, .null, []) := rfl
theorem iGraphDeltasModel_clash_55 : ai_find (ai_tab mGraphDeltasModel_clash) 55 = some (.iload_n 1, 56, 1, 0, 0, .null, []) := rfl
theorem iGraphDeltasModel_clash_56 : ai_find (ai_tab mGraphDeltasModel_clash) 56 = some (.iaload, 57, 0, 0, 0, .null, []) := rfl
theorem iGraphDeltasModel_clash_57 : ai_find (ai_tab mGraphDeltasModel_clash) 57 = some (.iconst 2, 58, 0, 0, 0, .int (nI 2), []) := rfl
theorem iGraphDeltasModel_clash_58 : ai_find (ai_tab mGraphDeltasModel_clash) 58 = some (.if_icmp .ne 24, 61, 82, 0, 0, .null, []) := rfl
theorem iGraphDeltasModel_clash_61 : ai_find (ai_tab mGraphDeltasModel_clash) 61 = some (.aload_n 0, 62, 0, 0, 0, .null, []) := rfl
theorem iGraphDeltasModel_clash_62 : ai_find (ai_tab mGraphDeltasModel_clash) 62 = some (.getfield 40, 65, 7, 10, 0, .null, []) := rfl
theorem iGraphDeltasModel_clash_65 : ai_find (ai_tab mGraphDeltasModel_clash) 65 = some (.iload_n 1, 66, 1, 0, 0, .null, []) := rfl
theorem iGraphDeltasModel_clash_66 : ai_find (ai_tab mGraphDeltasModel_clash) 66 = some (.iaload, 67, 0, 0, 0, .null, []) := rfl
theorem iGraphDeltasModel_clash_67 : ai_find (ai_tab mGraphDeltasModel_clash) 67 = some (.aload_n 0, 68, 0, 0, 0, .null, []) := rfl
theorem iGraphDeltasModel_clash_68 : ai_find (ai_tab mGraphDeltasModel_clash) 68 = some (.getfield 40, 71, 7, 10, 0, .null, []) := rfl
theorem iGraphDeltasModel_clash_71 : ai_find (ai_tab mGraphDeltasModel_clash) 71 = some (.iload_n 2, 72, 2, 0, 0, .null, []) := rfl
theorem iGraphDeltasModel_clash_72 : ai_find (ai_tab mGraphDeltasModel_clash) 72 = some (.iaload, 73, 0, 0, 0, .null, []) := rfl
theorem iGraphDeltasModel_clash_73 : ai_find (ai_tab mGraphDeltasModel_clash) 73 = some (.if_icmp .ne 7, 76, 80, 0, 0, .null, []) := rfl
theorem iGraphDeltasModel_clash_76 : ai_find (ai_tab mGraphDeltasModel_clash) 76 = some (.iconst 1, 77, 0, 0, 0, .int (nI 1), []) := rfl
theorem iGraphDeltasModel_clash_77 : ai_find (ai_tab mGraphDeltasModel_clash) 77 = some (.goto 4, 80, 81, 0, 0, .null, []) := rfl
theorem iGraphDeltasModel_clash_80 : ai_find (ai_tab mGraphDeltasModel_clash) 80 = some (.iconst 0, 81, 0, 0, 0, .int (nI 0), []) := rfl
theorem iGraphDeltasModel_clash_81 : ai_find (ai_tab mGraphDeltasModel_clash) 81 = some (.ireturn, 82, 1, 0, 0, .null, []) := rfl
theorem iGraphDeltasModel_clash_82 : ai_find (ai_tab mGraphDeltasModel_clash) 82 = some (.aload_n 0, 83, 0, 0, 0, .null, []) := rfl
theorem iGraphDeltasModel_clash_83 : ai_find (ai_tab mGraphDeltasModel_clash) 83 = some (.getfield 40, 86, 7, 10, 0, .null, []) := rfl
theorem iGraphDeltasModel_clash_86 : ai_find (ai_tab mGraphDeltasModel_clash) 86 = some (.iload_n 1, 87, 1, 0, 0, .null, []) := rfl
theorem iGraphDeltasModel_clash_87 : ai_find (ai_tab mGraphDeltasModel_clash) 87 = some (.iaload, 88, 0, 0, 0, .null, []) := rfl
theorem iGraphDeltasModel_clash_88 : ai_find (ai_tab mGraphDeltasModel_clash) 88 = some (.aload_n 0, 89, 0, 0, 0, .null, []) := rfl
theorem iGraphDeltasModel_clash_89 : ai_find (ai_tab mGraphDeltasModel_clash) 89 = some (.getfield 40, 92, 7, 10, 0, .null, []) := rfl
theorem iGraphDeltasModel_clash_92 : ai_find (ai_tab mGraphDeltasModel_clash) 92 = some (.iload_n 2, 93, 2, 0, 0, .null, []) := rfl
theorem iGraphDeltasModel_clash_93 : ai_find (ai_tab mGraphDeltasModel_clash) 93 = some (.iaload, 94, 0, 0, 0, .null, []) := rfl
theorem iGraphDeltasModel_clash_94 : ai_find (ai_tab mGraphDeltasModel_clash) 94 = some (.aload_n 0, 95, 0, 0, 0, .null, []) := rfl
theorem iGraphDeltasModel_clash_95 : ai_find (ai_tab mGraphDeltasModel_clash) 95 = some (.getfield 43, 98, 7, 11, 0, .null, []) := rfl
theorem iGraphDeltasModel_clash_98 : ai_find (ai_tab mGraphDeltasModel_clash) 98 = some (.iload_n 2, 99, 2, 0, 0, .null, []) := rfl
set_option maxRecDepth 20000 in theorem iGraphDeltasModel_clash_99 : ai_find (ai_tab mGraphDeltasModel_clash) 99 = some (.iaload, 100, 0, 0, 0, .null, []) := rfl
set_option maxRecDepth 20000 in theorem iGraphDeltasModel_clash_100 : ai_find (ai_tab mGraphDeltasModel_clash) 100 = some (.iadd, 101, 0, 0, 0, .null, []) := rfl
set_option maxRecDepth 20000 in theorem iGraphDeltasModel_clash_101 : ai_find (ai_tab mGraphDeltasModel_clash) 101 = some (.if_icmp .gt 29, 104, 130, 0, 0, .null, []) := rfl
set_option maxRecDepth 20000 in theorem iGraphDeltasModel_clash_104 : ai_find (ai_tab mGraphDeltasModel_clash) 104 = some (.aload_n 0, 105, 0, 0, 0, .null, []) := rfl
set_option maxRecDepth 20000 in theorem iGraphDeltasModel_clash_105 : ai_find (ai_tab mGraphDeltasModel_clash) 105 = some (.getfield 40, 108, 7, 10, 0, .null, []) := rfl
set_option maxRecDepth 20000 in theorem iGraphDeltasModel_clash_108 : ai_find (ai_tab mGraphDeltasModel_clash) 108 = some (.iload_n 2, 109, 2, 0, 0, .null, []) := rfl
set_option maxRecDepth 20000 in theorem iGraphDeltasModel_clash_109 : ai_find (ai_tab mGraphDeltasModel_clash) 109 = some (.iaload, 110, 0, 0, 0, .null, []) := rfl
set_option maxRecDepth 20000 in theorem iGraphDeltasModel_clash_110 : ai_find (ai_tab mGraphDeltasModel_clash) 110 = some (.aload_n 0, 111, 0, 0, 0, .null, []) := rfl
set_option maxRecDepth 20000 in theorem iGraphDeltasModel_clash_111 : ai_find (ai_tab mGraphDeltasModel_clash) 111 = some (.getfield 40, 114, 7, 10, 0, .null, []) := rfl
set_option maxRecDepth 20000 in theorem iGraphDeltasModel_clash_114 : ai_find (ai_tab mGraphDeltasModel_clash) 114 = some (.iload_n 1, 115, 1, 0, 0, .null, []) := rfl
set_option maxRecDepth 20000 in theorem iGraphDeltasModel_clash_115 : ai_find (ai_tab mGraphDeltasModel_clash) 115 = some (.iaload, 116, 0, 0, 0, .null, []) := rfl
set_option maxRecDepth 20000 in theorem iGraphDeltasModel_clash_116 : ai_find (ai_tab mGraphDeltasModel_clash) 116 = some (.aload_n 0, 117, 0, 0, 0, .null, []) := rfl
set_option maxRecDepth 20000 in theorem iGraphDeltasModel_clash_117 : ai_find (ai_tab mGraphDeltasModel_clash) 117 = some (.getfield 43, 120, 7, 11, 0, .null, []) := rfl
set_option maxRecDepth 20000 in theorem iGraphDeltasModel_clash_120 : ai_find (ai_tab mGraphDeltasModel_clash) 120 = some (.iload_n 1, 121, 1, 0, 0, .null, []) := rfl
set_option maxRecDepth 20000 in theorem iGraphDeltasModel_clash_121 : ai_find (ai_tab mGraphDeltasModel_clash) 121 = some (.iaload, 122, 0, 0, 0, .null, []) := rfl
set_option maxRecDepth 20000 in theorem iGraphDeltasModel_clash_122 : ai_find (ai_tab mGraphDeltasModel_clash) 122 = some (.iadd, 123, 0, 0, 0, .null, []) := rfl
set_option maxRecDepth 20000 in theorem iGraphDeltasModel_clash_123 : ai_find (ai_tab mGraphDeltasModel_clash) 123 = some (.if_icmp .gt 7, 126, 130, 0, 0, .null, []) := rfl
set_option maxRecDepth 20000 in theorem iGraphDeltasModel_clash_126 : ai_find (ai_tab mGraphDeltasModel_clash) 126 = some (.iconst 1, 127, 0, 0, 0, .int (nI 1), []) := rfl
set_option maxRecDepth 20000 in theorem iGraphDeltasModel_clash_127 : ai_find (ai_tab mGraphDeltasModel_clash) 127 = some (.goto 4, 130, 131, 0, 0, .null, []) := rfl
set_option maxRecDepth 20000 in theorem iGraphDeltasModel_clash_130 : ai_find (ai_tab mGraphDeltasModel_clash) 130 = some (.iconst 0, 131, 0, 0, 0, .int (nI 0), []) := rfl
set_option maxRecDepth 20000 in theorem iGraphDeltasModel_clash_131 : ai_find (ai_tab mGraphDeltasModel_clash) 131 = some (.ireturn, 132, 1, 0, 0, .null, []) := rfl
theorem iGraphDeltasModel_clear_0 : ai_find (ai_tab mGraphDeltasModel_clear) 0 = some (.aload_n 0, 1, 0, 0, 0, .null, []) := rfl
theorem iGraphDeltasModel_clear_1 : ai_find (ai_tab mGraphDeltasModel_clear) 1 = some (.getfield 20, 4, 7, 4, 0, .null, []) := rfl
theorem iGraphDeltasModel_clear_4 : ai_find (ai_tab mGraphDeltasModel_clear) 4 = some (.iload_n 1, 5, 1, 0, 0, .null, []) := rfl
theorem iGraphDeltasModel_clear_5 : ai_find (ai_tab mGraphDeltasModel_clear) 5 = some (.iconst 0, 6, 0, 0, 0, .int (nI 0), []) := rfl
theorem iGraphDeltasModel_clear_6 : ai_find (ai_tab mGraphDeltasModel_clear) 6 = some (.iastore, 7, 0, 0, 0, .null, []) := rfl
theorem iGraphDeltasModel_clear_7 : ai_find (ai_tab mGraphDeltasModel_clear) 7 = some (.iconst 0, 8, 0, 0, 0, .int (nI 0), []) := rfl
theorem iGraphDeltasModel_clear_8 : ai_find (ai_tab mGraphDeltasModel_clear) 8 = some (.istore_n 2, 9, 2, 0, 0, .null, []) := rfl
theorem iGraphDeltasModel_clear_9 : ai_find (ai_tab mGraphDeltasModel_clear) 9 = some (.iload_n 2, 10, 2, 0, 0, .null, []) := rfl
theorem iGraphDeltasModel_clear_10 : ai_find (ai_tab mGraphDeltasModel_clear) 10 = some (.iconst 3, 11, 0, 0, 0, .int (nI 3), []) := rfl
theorem iGraphDeltasModel_clear_11 : ai_find (ai_tab mGraphDeltasModel_clear) 11 = some (.if_icmp .ge 23, 14, 34, 0, 0, .null, []) := rfl
theorem iGraphDeltasModel_clear_14 : ai_find (ai_tab mGraphDeltasModel_clear) 14 = some (.aload_n 0, 15, 0, 0, 0, .null, []) := rfl
theorem iGraphDeltasModel_clear_15 : ai_find (ai_tab mGraphDeltasModel_clear) 15 = some (.getfield 24, 18, 7, 5, 0, .null, []) := rfl
theorem iGraphDeltasModel_clear_18 : ai_find (ai_tab mGraphDeltasModel_clear) 18 = some (.bipush 6, 20, 0, 0, 0, .int (nI 6), []) := rfl
theorem iGraphDeltasModel_clear_20 : ai_find (ai_tab mGraphDeltasModel_clear) 20 = some (.iload_n 1, 21, 1, 0, 0, .null, []) := rfl
theorem iGraphDeltasModel_clear_21 : ai_find (ai_tab mGraphDeltasModel_clear) 21 = some (.imul, 22, 0, 0, 0, .null, []) := rfl
theorem iGraphDeltasModel_clear_22 : ai_find (ai_tab mGraphDeltasModel_clear) 22 = some (.iload_n 2, 23, 2, 0, 0, .null, []) := rfl
theorem iGraphDeltasModel_clear_23 : ai_find (ai_tab mGraphDeltasModel_clear) 23 = some (.iadd, 24, 0, 0, 0, .null, []) := rfl
theorem iGraphDeltasModel_clear_24 : ai_find (ai_tab mGraphDeltasModel_clear) 24 = some (.ldc2_w 71, 27, 0, 0, 0, .long 8589934592, []) := rfl
theorem iGraphDeltasModel_clear_27 : ai_find (ai_tab mGraphDeltasModel_clear) 27 = some (.lastore, 28, 0, 0, 0, .null, []) := rfl
theorem iGraphDeltasModel_clear_28 : ai_find (ai_tab mGraphDeltasModel_clear) 28 = some (.iinc 2 1, 31, 2, 0, 0, .int (nI 1), []) := rfl
theorem iGraphDeltasModel_clear_31 : ai_find (ai_tab mGraphDeltasModel_clear) 31 = some (.goto (-22), 34, 9, 0, 0, .null, []) := rfl
theorem iGraphDeltasModel_clear_34 : ai_find (ai_tab mGraphDeltasModel_clear) 34 = some (.return_, 35, 0, 0, 0, .null, []) := rfl
theorem iGraphDeltasModel_conflict_0 : ai_find (ai_tab mGraphDeltasModel_conflict) 0 = some (.iload_n 1, 1, 1, 0, 0, .null, []) := rfl
theorem iGraphDeltasModel_conflict_1 : ai_find (ai_tab mGraphDeltasModel_conflict) 1 = some (.ifCond .lt 11, 4, 12, 0, 0, .null, []) := rfl
theorem iGraphDeltasModel_conflict_4 : ai_find (ai_tab mGraphDeltasModel_conflict) 4 = some (.iload_n 1, 5, 1, 0, 0, .null, []) := rfl
theorem iGraphDeltasModel_conflict_5 : ai_find (ai_tab mGraphDeltasModel_conflict) 5 = some (.aload_n 0, 6, 0, 0, 0, .null, []) := rfl
theorem iGraphDeltasModel_conflict_6 : ai_find (ai_tab mGraphDeltasModel_conflict) 6 = some (.getfield 148, 9, 7, 16, 0, .null, []) := rfl
theorem iGraphDeltasModel_conflict_9 : ai_find (ai_tab mGraphDeltasModel_conflict) 9 = some (.if_icmp .lt 7, 12, 16, 0, 0, .null, []) := rfl
theorem iGraphDeltasModel_conflict_12 : ai_find (ai_tab mGraphDeltasModel_conflict) 12 = some (.iconst (-1), 13, 0, 0, 0, .int (-1), []) := rfl
theorem iGraphDeltasModel_conflict_13 : ai_find (ai_tab mGraphDeltasModel_conflict) 13 = some (.goto 9, 16, 22, 0, 0, .null, []) := rfl
theorem iGraphDeltasModel_conflict_16 : ai_find (ai_tab mGraphDeltasModel_conflict) 16 = some (.aload_n 0, 17, 0, 0, 0, .null, []) := rfl
theorem iGraphDeltasModel_conflict_17 : ai_find (ai_tab mGraphDeltasModel_conflict) 17 = some (.getfield 58, 20, 7, 17, 0, .null, []) := rfl
theorem iGraphDeltasModel_conflict_20 : ai_find (ai_tab mGraphDeltasModel_conflict) 20 = some (.iload_n 1, 21, 1, 0, 0, .null, []) := rfl
theorem iGraphDeltasModel_conflict_21 : ai_find (ai_tab mGraphDeltasModel_conflict) 21 = some (.iaload, 22, 0, 0, 0, .null, []) := rfl
theorem iGraphDeltasModel_conflict_22 : ai_find (ai_tab mGraphDeltasModel_conflict) 22 = some (.ireturn, 23, 0, 0, 0, .null, []) := rfl
theorem iGraphDeltasModel_copy_0 : ai_find (ai_tab mGraphDeltasModel_copy) 0 = some (.iconst 0, 1, 0, 0, 0, .int (nI 0), []) := rfl
theorem iGraphDeltasModel_copy_1 : ai_find (ai_tab mGraphDeltasModel_copy) 1 = some (.istore_n 3, 2, 3, 0, 0, .null, []) := rfl
theorem iGraphDeltasModel_copy_2 : ai_find (ai_tab mGraphDeltasModel_copy) 2 = some (.iload_n 3, 3, 3, 0, 0, .null, []) := rfl
theorem iGraphDeltasModel_copy_3 : ai_find (ai_tab mGraphDeltasModel_copy) 3 = some (.bipush 16, 5, 0, 0, 0, .int (nI 16), []) := rfl
theorem iGraphDeltasModel_copy_5 : ai_find (ai_tab mGraphDeltasModel_copy) 5 = some (.if_icmp .ge 103, 8, 108, 0, 0, .null, []) := rfl
theorem iGraphDeltasModel_copy_8 : ai_find (ai_tab mGraphDeltasModel_copy) 8 = some (.aload_n 0, 9, 0, 0, 0, .null, []) := rfl
theorem iGraphDeltasModel_copy_9 : ai_find (ai_tab mGraphDeltasModel_copy) 9 = some (.getfield 17, 12, 7, 3, 0, .null, []) := rfl
theorem iGraphDeltasModel_copy_12 : ai_find (ai_tab mGraphDeltasModel_copy) 12 = some (.bipush 16, 14, 0, 0, 0, .int (nI 16), []) := rfl
theorem iGraphDeltasModel_copy_14 : ai_find (ai_tab mGraphDeltasModel_copy) 14 = some (.iload_n 2, 15, 2, 0, 0, .null, []) := rfl
theorem iGraphDeltasModel_copy_15 : ai_find (ai_tab mGraphDeltasModel_copy) 15 = some (.imul, 16, 0, 0, 0, .null, []) := rfl
theorem iGraphDeltasModel_copy_16 : ai_find (ai_tab mGraphDeltasModel_copy) 16 = some (.iload_n 3, 17, 3, 0, 0, .null, []) := rfl
theorem iGraphDeltasModel_copy_17 : ai_find (ai_tab mGraphDeltasModel_copy) 17 = some (.iadd, 18, 0, 0, 0, .null, []) := rfl
theorem iGraphDeltasModel_copy_18 : ai_find (ai_tab mGraphDeltasModel_copy) 18 = some (.aload_n 0, 19, 0, 0, 0, .null, []) := rfl
theorem iGraphDeltasModel_copy_19 : ai_find (ai_tab mGraphDeltasModel_copy) 19 = some (.getfield 17, 22, 7, 3, 0, .null, []) := rfl
theorem iGraphDeltasModel_copy_22 : ai_find (ai_tab mGraphDeltasModel_copy) 22 = some (.bipush 16, 24, 0, 0, 0, .int (nI 16), []) := rfl
theorem iGraphDeltasModel_copy_24 : ai_find (ai_tab mGraphDeltasModel_copy) 24 = some (.iload_n 1, 25, 1, 0, 0, .null, []) := rfl
theorem iGraphDeltasModel_copy_25 : ai_find (ai_tab mGraphDeltasModel_copy) 25 = some (.imul, 26, 0, 0, 0, .null, []) := rfl
theorem iGraphDeltasModel_copy_26 : ai_find (ai_tab mGraphDeltasModel_copy) 26 = some (.iload_n 3, 27, 3, 0, 0, .null, []) := rfl
theorem iGraphDeltasModel_copy_27 : ai_find (ai_tab mGraphDeltasModel_copy) 27 = some (.iadd, 28, 0, 0, 0, .null, []) := rfl
theorem iGraphDeltasModel_copy_28 : ai_find (ai_tab mGraphDeltasModel_copy) 28 = some (.baload, 29, 0, 0, 0, .null, []) := rfl
theorem iGraphDeltasModel_copy_29 : ai_find (ai_tab mGraphDeltasModel_copy) 29 = some (.bastore, 30, 0, 0, 0, .null, []) := rfl
theorem iGraphDeltasModel_copy_30 : ai_find (ai_tab mGraphDeltasModel_copy) 30 = some (.aload_n 0, 31, 0, 0, 0, .null, []) := rfl
theorem iGraphDeltasModel_copy_31 : ai_find (ai_tab mGraphDeltasModel_copy) 31 = some (.getfield 20, 34, 7, 4, 0, .null, []) := rfl
theorem iGraphDeltasModel_copy_34 : ai_find (ai_tab mGraphDeltasModel_copy) 34 = some (.bipush 16, 36, 0, 0, 0, .int (nI 16), []) := rfl
theorem iGraphDeltasModel_copy_36 : ai_find (ai_tab mGraphDeltasModel_copy) 36 = some (.iload_n 2, 37, 2, 0, 0, .null, []) := rfl
theorem iGraphDeltasModel_copy_37 : ai_find (ai_tab mGraphDeltasModel_copy) 37 = some (.imul, 38, 0, 0, 0, .null, []) := rfl
theorem iGraphDeltasModel_copy_38 : ai_find (ai_tab mGraphDeltasModel_copy) 38 = some (.iload_n 3, 39, 3, 0, 0, .null, []) := rfl
theorem iGraphDeltasModel_copy_39 : ai_find (ai_tab mGraphDeltasModel_copy) 39 = some (.iadd, 40, 0, 0, 0, .null, []) := rfl
theorem iGraphDeltasModel_copy_40 : ai_find (ai_tab mGraphDeltasModel_copy) 40 = some (.aload_n 0, 41, 0, 0, 0, .null, []) := rfl
theorem iGraphDeltasModel_copy_41 : ai_find (ai_tab mGraphDeltasModel_copy) 41 = some (.getfield 20, 44, 7, 4, 0, .null, []) := rfl
theorem iGraphDeltasModel_copy_44 : ai_find (ai_tab mGraphDeltasModel_copy) 44 = some (.bipush 16, 46, 0, 0, 0, .int (nI 16), []) := rfl
theorem iGraphDeltasModel_copy_46 : ai_find (ai_tab mGraphDeltasModel_copy) 46 = some (.iload_n 1, 47, 1, 0, 0, .null, []) := rfl
theorem iGraphDeltasModel_copy_47 : ai_find (ai_tab mGraphDeltasModel_copy) 47 = some (.imul, 48, 0, 0, 0, .null, []) := rfl
theorem iGraphDeltasModel_copy_48 : ai_find (ai_tab mGraphDeltasModel_copy) 48 = some (.iload_n 3, 49, 3, 0, 0, .null, []) := rfl
theorem iGraphDeltasModel_copy_49 : ai_find (ai_tab mGraphDeltasModel_copy) 49 = some (.iadd, 50, 0, 0, 0, .null, []) := rfl
theorem iGraphDeltasModel_copy_50 : ai_find (ai_tab mGraphDeltasModel_copy) 50 = some (.iaload, 51, 0, 0, 0, .null, []) := rfl
theorem iGraphDeltasModel_copy_51 : ai_find (ai_tab mGraphDeltasModel_copy) 51 = some (.iastore, 52, 0, 0, 0, .null, []) := rfl
theorem iGraphDeltasModel_copy_52 : ai_find (ai_tab mGraphDeltasModel_copy) 52 = some (.iconst 0, 53, 0, 0, 0, .int (nI 0), []) := rfl
theorem iGraphDeltasModel_copy_53 : ai_find (ai_tab mGraphDeltasModel_copy) 53 = some (.istore 4, 55, 4, 0, 0, .null, []) := rfl
theorem iGraphDeltasModel_copy_55 : ai_find (ai_tab mGraphDeltasModel_copy) 55 = some (.iload 4, 57, 4, 0, 0, .null, []) := rfl
theorem iGraphDeltasModel_copy_57 : ai_find (ai_tab mGraphDeltasModel_copy) 57 = some (.bipush 6, 59, 0, 0, 0, .int (nI 6), []) := rfl
theorem iGraphDeltasModel_copy_59 : ai_find (ai_tab mGraphDeltasModel_copy) 59 = some (.if_icmp .ge 43, 62, 102, 0, 0, .null, []) := rfl
theorem iGraphDeltasModel_copy_62 : ai_find (ai_tab mGraphDeltasModel_copy) 62 = some (.aload_n 0, 63, 0, 0, 0, .null, []) := rfl
theorem iGraphDeltasModel_copy_63 : ai_find (ai_tab mGraphDeltasModel_copy) 63 = some (.getfield 24, 66, 7, 5, 0, .null, []) := rfl
theorem iGraphDeltasModel_copy_66 : ai_find (ai_tab mGraphDeltasModel_copy) 66 = some (.bipush 96, 68, 0, 0, 0, .int (nI 96), []) := rfl
theorem iGraphDeltasModel_copy_68 : ai_find (ai_tab mGraphDeltasModel_copy) 68 = some (.iload_n 2, 69, 2, 0, 0, .null, []) := rfl
theorem iGraphDeltasModel_copy_69 : ai_find (ai_tab mGraphDeltasModel_copy) 69 = some (.imul, 70, 0, 0, 0, .null, []) := rfl
theorem iGraphDeltasModel_copy_70 : ai_find (ai_tab mGraphDeltasModel_copy) 70 = some (.bipush 6, 72, 0, 0, 0, .int (nI 6), []) := rfl
theorem iGraphDeltasModel_copy_72 : ai_find (ai_tab mGraphDeltasModel_copy) 72 = some (.iload_n 3, 73, 3, 0, 0, .null, []) := rfl
theorem iGraphDeltasModel_copy_73 : ai_find (ai_tab mGraphDeltasModel_copy) 73 = some (.imul, 74, 0, 0, 0, .null, []) := rfl
theorem iGraphDeltasModel_copy_74 : ai_find (ai_tab mGraphDeltasModel_copy) 74 = some (.iadd, 75, 0, 0, 0, .null, []) := rfl
theorem iGraphDeltasModel_copy_75 : ai_find (ai_tab mGraphDeltasModel_copy) 75 = some (.iload 4, 77, 4, 0, 0, .null, []) := rfl
theorem iGraphDeltasModel_copy_77 : ai_find (ai_tab mGraphDeltasModel_copy) 77 = some (.iadd, 78, 0, 0, 0, .null, []) := rfl
theorem iGraphDeltasModel_copy_78 : ai_find (ai_tab mGraphDeltasModel_copy) 78 = some (.aload_n 0, 79, 0, 0, 0, .null, []) := rfl
theorem iGraphDeltasModel_copy_79 : ai_find (ai_tab mGraphDeltasModel_copy) 79 = some (.getfield 24, 82, 7, 5, 0, .null, []) := rfl
theorem iGraphDeltasModel_copy_82 : ai_find (ai_tab mGraphDeltasModel_copy) 82 = some (.bipush 96, 84, 0, 0, 0, .int (nI 96), []) := rfl
theorem iGraphDeltasModel_copy_84 : ai_find (ai_tab mGraphDeltasModel_copy) 84 = some (.iload_n 1, 85, 1, 0, 0, .null, []) := rfl
theorem iGraphDeltasModel_copy_85 : ai_find (ai_tab mGraphDeltasModel_copy) 85 = some (.imul, 86, 0, 0, 0, .null, []) := rfl
theorem iGraphDeltasModel_copy_86 : ai_find (ai_tab mGraphDeltasModel_copy) 86 = some (.bipush 6, 88, 0, 0, 0, .int (nI 6), []) := rfl
theorem iGraphDeltasModel_copy_88 : ai_find (ai_tab mGraphDeltasModel_copy) 88 = some (.iload_n 3, 89, 3, 0, 0, .null, []) := rfl
theorem iGraphDeltasModel_copy_89 : ai_find (ai_tab mGraphDeltasModel_copy) 89 = some (.imul, 90, 0, 0, 0, .null, []) := rfl
set_option maxRecDepth 20000 in theorem iGraphDeltasModel_copy_90 : ai_find (ai_tab mGraphDeltasModel_copy) 90 = some (.iadd, 91, 0, 0, 0, .null, []) := rfl
set_option maxRecDepth 20000 in theorem iGraphDeltasModel_copy_91 : ai_find (ai_tab mGraphDeltasModel_copy) 91 = some (.iload 4, 93, 4, 0, 0, .null, []) := rfl
set_option maxRecDepth 20000 in theorem iGraphDeltasModel_copy_93 : ai_find (ai_tab mGraphDeltasModel_copy) 93 = some (.iadd, 94, 0, 0, 0, .null, []) := rfl
set_option maxRecDepth 20000 in theorem iGraphDeltasModel_copy_94 : ai_find (ai_tab mGraphDeltasModel_copy) 94 = some (.laload, 95, 0, 0, 0, .null, []) := rfl
set_option maxRecDepth 20000 in theorem iGraphDeltasModel_copy_95 : ai_find (ai_tab mGraphDeltasModel_copy) 95 = some (.lastore, 96, 0, 0, 0, .null, []) := rfl
set_option maxRecDepth 20000 in theorem iGraphDeltasModel_copy_96 : ai_find (ai_tab mGraphDeltasModel_copy) 96 = some (.iinc 4 1, 99, 4, 0, 0, .int (nI 1), []) := rfl
set_option maxRecDepth 20000 in theorem iGraphDeltasModel_copy_99 : ai_find (ai_tab mGraphDeltasModel_copy) 99 = some (.goto (-44), 102, 55, 0, 0, .null, []) := rfl
set_option maxRecDepth 20000 in theorem iGraphDeltasModel_copy_102 : ai_find (ai_tab mGraphDeltasModel_copy) 102 = some (.iinc 3 1, 105, 3, 0, 0, .int (nI 1), []) := rfl
set_option maxRecDepth 20000 in theorem iGraphDeltasModel_copy_105 : ai_find (ai_tab mGraphDeltasModel_copy) 105 = some (.goto (-103), 108, 2, 0, 0, .null, []) := rfl
set_option maxRecDepth 20000 in theorem iGraphDeltasModel_copy_108 : ai_find (ai_tab mGraphDeltasModel_copy) 108 = some (.return_, 109, 0, 0, 0, .null, []) := rfl
theorem iGraphDeltasModel_creates_0 : ai_find (ai_tab mGraphDeltasModel_creates) 0 = some (.iconst 0, 1, 0, 0, 0, .int (nI 0), []) := rfl
theorem iGraphDeltasModel_creates_1 : ai_find (ai_tab mGraphDeltasModel_creates) 1 = some (.istore_n 2, 2, 2, 0, 0, .null, []) := rfl
theorem iGraphDeltasModel_creates_2 : ai_find (ai_tab mGraphDeltasModel_creates) 2 = some (.iconst 0, 3, 0, 0, 0, .int (nI 0), []) := rfl
theorem iGraphDeltasModel_creates_3 : ai_find (ai_tab mGraphDeltasModel_creates) 3 = some (.istore_n 3, 4, 3, 0, 0, .null, []) := rfl
theorem iGraphDeltasModel_creates_4 : ai_find (ai_tab mGraphDeltasModel_creates) 4 = some (.iload_n 3, 5, 3, 0, 0, .null, []) := rfl
theorem iGraphDeltasModel_creates_5 : ai_find (ai_tab mGraphDeltasModel_creates) 5 = some (.aload_n 0, 6, 0, 0, 0, .null, []) := rfl
theorem iGraphDeltasModel_creates_6 : ai_find (ai_tab mGraphDeltasModel_creates) 6 = some (.getfield 31, 9, 7, 7, 0, .null, []) := rfl
theorem iGraphDeltasModel_creates_9 : ai_find (ai_tab mGraphDeltasModel_creates) 9 = some (.iconst 0, 10, 0, 0, 0, .int (nI 0), []) := rfl
theorem iGraphDeltasModel_creates_10 : ai_find (ai_tab mGraphDeltasModel_creates) 10 = some (.iaload, 11, 0, 0, 0, .null, []) := rfl
theorem iGraphDeltasModel_creates_11 : ai_find (ai_tab mGraphDeltasModel_creates) 11 = some (.if_icmp .ge 39, 14, 50, 0, 0, .null, []) := rfl
theorem iGraphDeltasModel_creates_14 : ai_find (ai_tab mGraphDeltasModel_creates) 14 = some (.iload_n 2, 15, 2, 0, 0, .null, []) := rfl
theorem iGraphDeltasModel_creates_15 : ai_find (ai_tab mGraphDeltasModel_creates) 15 = some (.ifCond .ne 23, 18, 38, 0, 0, .null, []) := rfl
theorem iGraphDeltasModel_creates_18 : ai_find (ai_tab mGraphDeltasModel_creates) 18 = some (.aload_n 0, 19, 0, 0, 0, .null, []) := rfl
theorem iGraphDeltasModel_creates_19 : ai_find (ai_tab mGraphDeltasModel_creates) 19 = some (.getfield 34, 22, 7, 8, 0, .null, []) := rfl
theorem iGraphDeltasModel_creates_22 : ai_find (ai_tab mGraphDeltasModel_creates) 22 = some (.iload_n 3, 23, 3, 0, 0, .null, []) := rfl
theorem iGraphDeltasModel_creates_23 : ai_find (ai_tab mGraphDeltasModel_creates) 23 = some (.iaload, 24, 0, 0, 0, .null, []) := rfl
theorem iGraphDeltasModel_creates_24 : ai_find (ai_tab mGraphDeltasModel_creates) 24 = some (.iconst 1, 25, 0, 0, 0, .int (nI 1), []) := rfl
theorem iGraphDeltasModel_creates_25 : ai_find (ai_tab mGraphDeltasModel_creates) 25 = some (.if_icmp .ne 17, 28, 42, 0, 0, .null, []) := rfl
theorem iGraphDeltasModel_creates_28 : ai_find (ai_tab mGraphDeltasModel_creates) 28 = some (.aload_n 0, 29, 0, 0, 0, .null, []) := rfl
theorem iGraphDeltasModel_creates_29 : ai_find (ai_tab mGraphDeltasModel_creates) 29 = some (.getfield 37, 32, 7, 9, 0, .null, []) := rfl
theorem iGraphDeltasModel_creates_32 : ai_find (ai_tab mGraphDeltasModel_creates) 32 = some (.iload_n 3, 33, 3, 0, 0, .null, []) := rfl
theorem iGraphDeltasModel_creates_33 : ai_find (ai_tab mGraphDeltasModel_creates) 33 = some (.iaload, 34, 0, 0, 0, .null, []) := rfl
theorem iGraphDeltasModel_creates_34 : ai_find (ai_tab mGraphDeltasModel_creates) 34 = some (.iload_n 1, 35, 1, 0, 0, .null, []) := rfl
theorem iGraphDeltasModel_creates_35 : ai_find (ai_tab mGraphDeltasModel_creates) 35 = some (.if_icmp .ne 7, 38, 42, 0, 0, .null, []) := rfl
theorem iGraphDeltasModel_creates_38 : ai_find (ai_tab mGraphDeltasModel_creates) 38 = some (.iconst 1, 39, 0, 0, 0, .int (nI 1), []) := rfl
theorem iGraphDeltasModel_creates_39 : ai_find (ai_tab mGraphDeltasModel_creates) 39 = some (.goto 4, 42, 43, 0, 0, .null, []) := rfl
theorem iGraphDeltasModel_creates_42 : ai_find (ai_tab mGraphDeltasModel_creates) 42 = some (.iconst 0, 43, 0, 0, 0, .int (nI 0), []) := rfl
theorem iGraphDeltasModel_creates_43 : ai_find (ai_tab mGraphDeltasModel_creates) 43 = some (.istore_n 2, 44, 2, 0, 0, .null, []) := rfl
theorem iGraphDeltasModel_creates_44 : ai_find (ai_tab mGraphDeltasModel_creates) 44 = some (.iinc 3 1, 47, 3, 0, 0, .int (nI 1), []) := rfl
theorem iGraphDeltasModel_creates_47 : ai_find (ai_tab mGraphDeltasModel_creates) 47 = some (.goto (-43), 50, 4, 0, 0, .null, []) := rfl
theorem iGraphDeltasModel_creates_50 : ai_find (ai_tab mGraphDeltasModel_creates) 50 = some (.iload_n 2, 51, 2, 0, 0, .null, []) := rfl
theorem iGraphDeltasModel_creates_51 : ai_find (ai_tab mGraphDeltasModel_creates) 51 = some (.ireturn, 52, 1, 0, 0, .null, []) := rfl
theorem iGraphDeltasModel_cut_0 : ai_find (ai_tab mGraphDeltasModel_cut) 0 = some (.iload_n 1, 1, 1, 0, 0, .null, []) := rfl
theorem iGraphDeltasModel_cut_1 : ai_find (ai_tab mGraphDeltasModel_cut) 1 = some (.ifCond .lt 11, 4, 12, 0, 0, .null, []) := rfl
theorem iGraphDeltasModel_cut_4 : ai_find (ai_tab mGraphDeltasModel_cut) 4 = some (.iload_n 1, 5, 1, 0, 0, .null, []) := rfl
theorem iGraphDeltasModel_cut_5 : ai_find (ai_tab mGraphDeltasModel_cut) 5 = some (.aload_n 0, 6, 0, 0, 0, .null, []) := rfl
theorem iGraphDeltasModel_cut_6 : ai_find (ai_tab mGraphDeltasModel_cut) 6 = some (.getfield 210, 9, 7, 18, 0, .null, []) := rfl
theorem iGraphDeltasModel_cut_9 : ai_find (ai_tab mGraphDeltasModel_cut) 9 = some (.if_icmp .le 5, 12, 14, 0, 0, .null, []) := rfl
theorem iGraphDeltasModel_cut_12 : ai_find (ai_tab mGraphDeltasModel_cut) 12 = some (.iconst 0, 13, 0, 0, 0, .int (nI 0), []) := rfl
theorem iGraphDeltasModel_cut_13 : ai_find (ai_tab mGraphDeltasModel_cut) 13 = some (.ireturn, 14, 1, 0, 0, .null, []) := rfl
theorem iGraphDeltasModel_cut_14 : ai_find (ai_tab mGraphDeltasModel_cut) 14 = some (.aload_n 0, 15, 0, 0, 0, .null, []) := rfl
theorem iGraphDeltasModel_cut_15 : ai_find (ai_tab mGraphDeltasModel_cut) 15 = some (.iload_n 1, 16, 1, 0, 0, .null, []) := rfl
theorem iGraphDeltasModel_cut_16 : ai_find (ai_tab mGraphDeltasModel_cut) 16 = some (.putfield 210, 19, 7, 18, 0, .null, []) := rfl
theorem iGraphDeltasModel_cut_19 : ai_find (ai_tab mGraphDeltasModel_cut) 19 = some (.iconst 1, 20, 0, 0, 0, .int (nI 1), []) := rfl
theorem iGraphDeltasModel_cut_20 : ai_find (ai_tab mGraphDeltasModel_cut) 20 = some (.ireturn, 21, 1, 0, 0, .null, []) := rfl
theorem iGraphDeltasModel_decode_0 : ai_find (ai_tab mGraphDeltasModel_decode) 0 = some (.aload_n 0, 1, 0, 0, 0, .null, []) := rfl
theorem iGraphDeltasModel_decode_1 : ai_find (ai_tab mGraphDeltasModel_decode) 1 = some (.invokevirtual 232, 4, 161, 1, 1, .ref 7, []) := rfl
theorem iGraphDeltasModel_decode_4 : ai_find (ai_tab mGraphDeltasModel_decode) 4 = some (.sipush 390, 7, 0, 0, 0, .int (nI 390), []) := rfl
theorem iGraphDeltasModel_decode_7 : ai_find (ai_tab mGraphDeltasModel_decode) 7 = some (.istore_n 1, 8, 1, 0, 0, .null, []) := rfl
theorem iGraphDeltasModel_decode_8 : ai_find (ai_tab mGraphDeltasModel_decode) 8 = some (.iload_n 1, 9, 1, 0, 0, .null, []) := rfl
theorem iGraphDeltasModel_decode_9 : ai_find (ai_tab mGraphDeltasModel_decode) 9 = some (.sipush 390, 12, 0, 0, 0, .int (nI 390), []) := rfl
theorem iGraphDeltasModel_decode_12 : ai_find (ai_tab mGraphDeltasModel_decode) 12 = some (.aload_n 0, 13, 0, 0, 0, .null, []) := rfl
theorem iGraphDeltasModel_decode_13 : ai_find (ai_tab mGraphDeltasModel_decode) 13 = some (.getfield 31, 16, 7, 7, 0, .null, []) := rfl
theorem iGraphDeltasModel_decode_16 : ai_find (ai_tab mGraphDeltasModel_decode) 16 = some (.iconst 3, 17, 0, 0, 0, .int (nI 3), []) := rfl
theorem iGraphDeltasModel_decode_17 : ai_find (ai_tab mGraphDeltasModel_decode) 17 = some (.iaload, 18, 0, 0, 0, .null, []) := rfl
theorem iGraphDeltasModel_decode_18 : ai_find (ai_tab mGraphDeltasModel_decode) 18 = some (.iadd, 19, 0, 0, 0, .null, []) := rfl
theorem iGraphDeltasModel_decode_19 : ai_find (ai_tab mGraphDeltasModel_decode) 19 = some (.if_icmp .ge 41, 22, 60, 0, 0, .null, []) := rfl
theorem iGraphDeltasModel_decode_22 : ai_find (ai_tab mGraphDeltasModel_decode) 22 = some (.aload_n 0, 23, 0, 0, 0, .null, []) := rfl
theorem iGraphDeltasModel_decode_23 : ai_find (ai_tab mGraphDeltasModel_decode) 23 = some (.getfield 216, 26, 7, 23, 0, .null, []) := rfl
theorem iGraphDeltasModel_decode_26 : ai_find (ai_tab mGraphDeltasModel_decode) 26 = some (.ifCond .eq 34, 29, 60, 0, 0, .null, []) := rfl
theorem iGraphDeltasModel_decode_29 : ai_find (ai_tab mGraphDeltasModel_decode) 29 = some (.aload_n 0, 30, 0, 0, 0, .null, []) := rfl
theorem iGraphDeltasModel_decode_30 : ai_find (ai_tab mGraphDeltasModel_decode) 30 = some (.aload_n 0, 31, 0, 0, 0, .null, []) := rfl
theorem iGraphDeltasModel_decode_31 : ai_find (ai_tab mGraphDeltasModel_decode) 31 = some (.iload_n 1, 32, 1, 0, 0, .null, []) := rfl
theorem iGraphDeltasModel_decode_32 : ai_find (ai_tab mGraphDeltasModel_decode) 32 = some (.invokevirtual 235, 35, 140, 2, 1, .ref 7, []) := rfl
theorem iGraphDeltasModel_decode_35 : ai_find (ai_tab mGraphDeltasModel_decode) 35 = some (.ifCond .eq 15, 38, 50, 0, 0, .null, []) := rfl
theorem iGraphDeltasModel_decode_38 : ai_find (ai_tab mGraphDeltasModel_decode) 38 = some (.aload_n 0, 39, 0, 0, 0, .null, []) := rfl
theorem iGraphDeltasModel_decode_39 : ai_find (ai_tab mGraphDeltasModel_decode) 39 = some (.iload_n 1, 40, 1, 0, 0, .null, []) := rfl
theorem iGraphDeltasModel_decode_40 : ai_find (ai_tab mGraphDeltasModel_decode) 40 = some (.invokevirtual 238, 43, 141, 2, 1, .ref 7, []) := rfl
theorem iGraphDeltasModel_decode_43 : ai_find (ai_tab mGraphDeltasModel_decode) 43 = some (.ifCond .eq 7, 46, 50, 0, 0, .null, []) := rfl
theorem iGraphDeltasModel_decode_46 : ai_find (ai_tab mGraphDeltasModel_decode) 46 = some (.iconst 1, 47, 0, 0, 0, .int (nI 1), []) := rfl
theorem iGraphDeltasModel_decode_47 : ai_find (ai_tab mGraphDeltasModel_decode) 47 = some (.goto 4, 50, 51, 0, 0, .null, []) := rfl
theorem iGraphDeltasModel_decode_50 : ai_find (ai_tab mGraphDeltasModel_decode) 50 = some (.iconst 0, 51, 0, 0, 0, .int (nI 0), []) := rfl
theorem iGraphDeltasModel_decode_51 : ai_find (ai_tab mGraphDeltasModel_decode) 51 = some (.putfield 216, 54, 7, 23, 1, .null, []) := rfl
theorem iGraphDeltasModel_decode_54 : ai_find (ai_tab mGraphDeltasModel_decode) 54 = some (.iinc 1 1, 57, 1, 0, 0, .int (nI 1), []) := rfl
theorem iGraphDeltasModel_decode_57 : ai_find (ai_tab mGraphDeltasModel_decode) 57 = some (.goto (-49), 60, 8, 0, 0, .null, []) := rfl
theorem iGraphDeltasModel_decode_60 : ai_find (ai_tab mGraphDeltasModel_decode) 60 = some (.aload_n 0, 61, 0, 0, 0, .null, []) := rfl
theorem iGraphDeltasModel_decode_61 : ai_find (ai_tab mGraphDeltasModel_decode) 61 = some (.getfield 216, 64, 7, 23, 0, .null, []) := rfl
theorem iGraphDeltasModel_decode_64 : ai_find (ai_tab mGraphDeltasModel_decode) 64 = some (.ifCond .ne 6, 67, 70, 0, 0, .null, []) := rfl
theorem iGraphDeltasModel_decode_67 : ai_find (ai_tab mGraphDeltasModel_decode) 67 = some (.bipush (-4), 69, 0, 0, 0, .int (-4), []) := rfl
theorem iGraphDeltasModel_decode_69 : ai_find (ai_tab mGraphDeltasModel_decode) 69 = some (.ireturn, 70, 0, 0, 0, .null, []) := rfl
theorem iGraphDeltasModel_decode_70 : ai_find (ai_tab mGraphDeltasModel_decode) 70 = some (.aload_n 0, 71, 0, 0, 0, .null, []) := rfl
theorem iGraphDeltasModel_decode_71 : ai_find (ai_tab mGraphDeltasModel_decode) 71 = some (.iconst 3, 72, 0, 0, 0, .int (nI 3), []) := rfl
theorem iGraphDeltasModel_decode_72 : ai_find (ai_tab mGraphDeltasModel_decode) 72 = some (.invokevirtual 207, 75, 178, 2, 1, .ref 7, []) := rfl
theorem iGraphDeltasModel_decode_75 : ai_find (ai_tab mGraphDeltasModel_decode) 75 = some (.aload_n 0, 76, 0, 0, 0, .null, []) := rfl
theorem iGraphDeltasModel_decode_76 : ai_find (ai_tab mGraphDeltasModel_decode) 76 = some (.getfield 191, 79, 7, 20, 0, .null, []) := rfl
theorem iGraphDeltasModel_decode_79 : ai_find (ai_tab mGraphDeltasModel_decode) 79 = some (.aload_n 0, 80, 0, 0, 0, .null, []) := rfl
theorem iGraphDeltasModel_decode_80 : ai_find (ai_tab mGraphDeltasModel_decode) 80 = some (.getfield 210, 83, 7, 18, 0, .null, []) := rfl
theorem iGraphDeltasModel_decode_83 : ai_find (ai_tab mGraphDeltasModel_decode) 83 = some (.if_icmp .eq 6, 86, 89, 0, 0, .null, []) := rfl
theorem iGraphDeltasModel_decode_86 : ai_find (ai_tab mGraphDeltasModel_decode) 86 = some (.bipush (-4), 88, 0, 0, 0, .int (-4), []) := rfl
theorem iGraphDeltasModel_decode_88 : ai_find (ai_tab mGraphDeltasModel_decode) 88 = some (.ireturn, 89, 0, 0, 0, .null, []) := rfl
theorem iGraphDeltasModel_decode_89 : ai_find (ai_tab mGraphDeltasModel_decode) 89 = some (.iconst 0, 90, 0, 0, 0, .int (nI 0), []) := rfl
theorem iGraphDeltasModel_decode_90 : ai_find (ai_tab mGraphDeltasModel_decode) 90 = some (.istore_n 1, 91, 1, 0, 0, .null, []) := rfl
theorem iGraphDeltasModel_decode_91 : ai_find (ai_tab mGraphDeltasModel_decode) 91 = some (.iload_n 1, 92, 1, 0, 0, .null, []) := rfl
theorem iGraphDeltasModel_decode_92 : ai_find (ai_tab mGraphDeltasModel_decode) 92 = some (.aload_n 0, 93, 0, 0, 0, .null, []) := rfl
theorem iGraphDeltasModel_decode_93 : ai_find (ai_tab mGraphDeltasModel_decode) 93 = some (.getfield 210, 96, 7, 18, 0, .null, []) := rfl
theorem iGraphDeltasModel_decode_96 : ai_find (ai_tab mGraphDeltasModel_decode) 96 = some (.if_icmp .ge 27, 99, 123, 0, 0, .null, []) := rfl
theorem iGraphDeltasModel_decode_99 : ai_find (ai_tab mGraphDeltasModel_decode) 99 = some (.aload_n 0, 100, 0, 0, 0, .null, []) := rfl
theorem iGraphDeltasModel_decode_100 : ai_find (ai_tab mGraphDeltasModel_decode) 100 = some (.getfield 64, 103, 7, 21, 0, .null, []) := rfl
theorem iGraphDeltasModel_decode_103 : ai_find (ai_tab mGraphDeltasModel_decode) 103 = some (.iload_n 1, 104, 1, 0, 0, .null, []) := rfl
theorem iGraphDeltasModel_decode_104 : ai_find (ai_tab mGraphDeltasModel_decode) 104 = some (.iaload, 105, 0, 0, 0, .null, []) := rfl
theorem iGraphDeltasModel_decode_105 : ai_find (ai_tab mGraphDeltasModel_decode) 105 = some (.aload_n 0, 106, 0, 0, 0, .null, []) := rfl
theorem iGraphDeltasModel_decode_106 : ai_find (ai_tab mGraphDeltasModel_decode) 106 = some (.getfield 61, 109, 7, 19, 0, .null, []) := rfl
theorem iGraphDeltasModel_decode_109 : ai_find (ai_tab mGraphDeltasModel_decode) 109 = some (.iload_n 1, 110, 1, 0, 0, .null, []) := rfl
theorem iGraphDeltasModel_decode_110 : ai_find (ai_tab mGraphDeltasModel_decode) 110 = some (.iaload, 111, 0, 0, 0, .null, []) := rfl
theorem iGraphDeltasModel_decode_111 : ai_find (ai_tab mGraphDeltasModel_decode) 111 = some (.if_icmp .eq 6, 114, 117, 0, 0, .null, []) := rfl
theorem iGraphDeltasModel_decode_114 : ai_find (ai_tab mGraphDeltasModel_decode) 114 = some (.bipush (-4), 116, 0, 0, 0, .int (-4), []) := rfl
set_option maxRecDepth 20000 in theorem iGraphDeltasModel_decode_116 : ai_find (ai_tab mGraphDeltasModel_decode) 116 = some (.ireturn, 117, 0, 0, 0, .null, []) := rfl
set_option maxRecDepth 20000 in theorem iGraphDeltasModel_decode_117 : ai_find (ai_tab mGraphDeltasModel_decode) 117 = some (.iinc 1 1, 120, 1, 0, 0, .int (nI 1), []) := rfl
set_option maxRecDepth 20000 in theorem iGraphDeltasModel_decode_120 : ai_find (ai_tab mGraphDeltasModel_decode) 120 = some (.goto (-29), 123, 91, 0, 0, .null, []) := rfl
set_option maxRecDepth 20000 in theorem iGraphDeltasModel_decode_123 : ai_find (ai_tab mGraphDeltasModel_decode) 123 = some (.aload_n 0, 124, 0, 0, 0, .null, []) := rfl
set_option maxRecDepth 20000 in theorem iGraphDeltasModel_decode_124 : ai_find (ai_tab mGraphDeltasModel_decode) 124 = some (.iconst 0, 125, 0, 0, 0, .int (nI 0), []) := rfl
set_option maxRecDepth 20000 in theorem iGraphDeltasModel_decode_125 : ai_find (ai_tab mGraphDeltasModel_decode) 125 = some (.invokevirtual 131, 128, 134, 2, 1, .ref 7, []) := rfl
set_option maxRecDepth 20000 in theorem iGraphDeltasModel_decode_128 : ai_find (ai_tab mGraphDeltasModel_decode) 128 = some (.sipush 390, 131, 0, 0, 0, .int (nI 390), []) := rfl
set_option maxRecDepth 20000 in theorem iGraphDeltasModel_decode_131 : ai_find (ai_tab mGraphDeltasModel_decode) 131 = some (.istore_n 1, 132, 1, 0, 0, .null, []) := rfl
set_option maxRecDepth 20000 in theorem iGraphDeltasModel_decode_132 : ai_find (ai_tab mGraphDeltasModel_decode) 132 = some (.iload_n 1, 133, 1, 0, 0, .null, []) := rfl
set_option maxRecDepth 20000 in theorem iGraphDeltasModel_decode_133 : ai_find (ai_tab mGraphDeltasModel_decode) 133 = some (.sipush 390, 136, 0, 0, 0, .int (nI 390), []) := rfl
set_option maxRecDepth 20000 in theorem iGraphDeltasModel_decode_136 : ai_find (ai_tab mGraphDeltasModel_decode) 136 = some (.aload_n 0, 137, 0, 0, 0, .null, []) := rfl
set_option maxRecDepth 20000 in theorem iGraphDeltasModel_decode_137 : ai_find (ai_tab mGraphDeltasModel_decode) 137 = some (.getfield 31, 140, 7, 7, 0, .null, []) := rfl
set_option maxRecDepth 20000 in theorem iGraphDeltasModel_decode_140 : ai_find (ai_tab mGraphDeltasModel_decode) 140 = some (.iconst 3, 141, 0, 0, 0, .int (nI 3), []) := rfl
set_option maxRecDepth 20000 in theorem iGraphDeltasModel_decode_141 : ai_find (ai_tab mGraphDeltasModel_decode) 141 = some (.iaload, 142, 0, 0, 0, .null, []) := rfl
set_option maxRecDepth 20000 in theorem iGraphDeltasModel_decode_142 : ai_find (ai_tab mGraphDeltasModel_decode) 142 = some (.iadd, 143, 0, 0, 0, .null, []) := rfl
set_option maxRecDepth 20000 in theorem iGraphDeltasModel_decode_143 : ai_find (ai_tab mGraphDeltasModel_decode) 143 = some (.if_icmp .ge 14, 146, 157, 0, 0, .null, []) := rfl
set_option maxRecDepth 20000 in theorem iGraphDeltasModel_decode_146 : ai_find (ai_tab mGraphDeltasModel_decode) 146 = some (.aload_n 0, 147, 0, 0, 0, .null, []) := rfl
set_option maxRecDepth 20000 in theorem iGraphDeltasModel_decode_147 : ai_find (ai_tab mGraphDeltasModel_decode) 147 = some (.iload_n 1, 148, 1, 0, 0, .null, []) := rfl
set_option maxRecDepth 20000 in theorem iGraphDeltasModel_decode_148 : ai_find (ai_tab mGraphDeltasModel_decode) 148 = some (.invokevirtual 158, 151, 175, 2, 1, .ref 7, []) := rfl
set_option maxRecDepth 20000 in theorem iGraphDeltasModel_decode_151 : ai_find (ai_tab mGraphDeltasModel_decode) 151 = some (.iinc 1 1, 154, 1, 0, 0, .int (nI 1), []) := rfl
set_option maxRecDepth 20000 in theorem iGraphDeltasModel_decode_154 : ai_find (ai_tab mGraphDeltasModel_decode) 154 = some (.goto (-22), 157, 132, 0, 0, .null, []) := rfl
set_option maxRecDepth 20000 in theorem iGraphDeltasModel_decode_157 : ai_find (ai_tab mGraphDeltasModel_decode) 157 = some (.aload_n 0, 158, 0, 0, 0, .null, []) := rfl
set_option maxRecDepth 20000 in theorem iGraphDeltasModel_decode_158 : ai_find (ai_tab mGraphDeltasModel_decode) 158 = some (.getfield 31, 161, 7, 7, 0, .null, []) := rfl
set_option maxRecDepth 20000 in theorem iGraphDeltasModel_decode_161 : ai_find (ai_tab mGraphDeltasModel_decode) 161 = some (.iconst 0, 162, 0, 0, 0, .int (nI 0), []) := rfl
set_option maxRecDepth 20000 in theorem iGraphDeltasModel_decode_162 : ai_find (ai_tab mGraphDeltasModel_decode) 162 = some (.iaload, 163, 0, 0, 0, .null, []) := rfl
set_option maxRecDepth 20000 in theorem iGraphDeltasModel_decode_163 : ai_find (ai_tab mGraphDeltasModel_decode) 163 = some (.ireturn, 164, 0, 0, 0, .null, []) := rfl
theorem iGraphDeltasModel_diff_0 : ai_find (ai_tab mGraphDeltasModel_diff) 0 = some (.aload_n 0, 1, 0, 0, 0, .null, []) := rfl
theorem iGraphDeltasModel_diff_1 : ai_find (ai_tab mGraphDeltasModel_diff) 1 = some (.iload_n 1, 2, 1, 0, 0, .null, []) := rfl
theorem iGraphDeltasModel_diff_2 : ai_find (ai_tab mGraphDeltasModel_diff) 2 = some (.invokevirtual 98, 5, 145, 2, 1, .ref 7, []) := rfl
theorem iGraphDeltasModel_diff_5 : ai_find (ai_tab mGraphDeltasModel_diff) 5 = some (.ifCond .eq 11, 8, 16, 0, 0, .null, []) := rfl
theorem iGraphDeltasModel_diff_8 : ai_find (ai_tab mGraphDeltasModel_diff) 8 = some (.aload_n 0, 9, 0, 0, 0, .null, []) := rfl
theorem iGraphDeltasModel_diff_9 : ai_find (ai_tab mGraphDeltasModel_diff) 9 = some (.iload_n 2, 10, 2, 0, 0, .null, []) := rfl
theorem iGraphDeltasModel_diff_10 : ai_find (ai_tab mGraphDeltasModel_diff) 10 = some (.invokevirtual 98, 13, 145, 2, 1, .ref 7, []) := rfl
theorem iGraphDeltasModel_diff_13 : ai_find (ai_tab mGraphDeltasModel_diff) 13 = some (.ifCond .ne 5, 16, 18, 0, 0, .null, []) := rfl
theorem iGraphDeltasModel_diff_16 : ai_find (ai_tab mGraphDeltasModel_diff) 16 = some (.iconst (-1), 17, 0, 0, 0, .int (-1), []) := rfl
theorem iGraphDeltasModel_diff_17 : ai_find (ai_tab mGraphDeltasModel_diff) 17 = some (.ireturn, 18, 0, 0, 0, .null, []) := rfl
theorem iGraphDeltasModel_diff_18 : ai_find (ai_tab mGraphDeltasModel_diff) 18 = some (.aload_n 0, 19, 0, 0, 0, .null, []) := rfl
theorem iGraphDeltasModel_diff_19 : ai_find (ai_tab mGraphDeltasModel_diff) 19 = some (.iconst 0, 20, 0, 0, 0, .int (nI 0), []) := rfl
theorem iGraphDeltasModel_diff_20 : ai_find (ai_tab mGraphDeltasModel_diff) 20 = some (.iload_n 1, 21, 1, 0, 0, .null, []) := rfl
theorem iGraphDeltasModel_diff_21 : ai_find (ai_tab mGraphDeltasModel_diff) 21 = some (.iconst 1, 22, 0, 0, 0, .int (nI 1), []) := rfl
theorem iGraphDeltasModel_diff_22 : ai_find (ai_tab mGraphDeltasModel_diff) 22 = some (.iadd, 23, 0, 0, 0, .null, []) := rfl
theorem iGraphDeltasModel_diff_23 : ai_find (ai_tab mGraphDeltasModel_diff) 23 = some (.iload_n 2, 24, 2, 0, 0, .null, []) := rfl
theorem iGraphDeltasModel_diff_24 : ai_find (ai_tab mGraphDeltasModel_diff) 24 = some (.iconst 1, 25, 0, 0, 0, .int (nI 1), []) := rfl
theorem iGraphDeltasModel_diff_25 : ai_find (ai_tab mGraphDeltasModel_diff) 25 = some (.iadd, 26, 0, 0, 0, .null, []) := rfl
theorem iGraphDeltasModel_diff_26 : ai_find (ai_tab mGraphDeltasModel_diff) 26 = some (.invokevirtual 141, 29, 133, 4, 1, .ref 7, []) := rfl
theorem iGraphDeltasModel_diff_29 : ai_find (ai_tab mGraphDeltasModel_diff) 29 = some (.aload_n 0, 30, 0, 0, 0, .null, []) := rfl
theorem iGraphDeltasModel_diff_30 : ai_find (ai_tab mGraphDeltasModel_diff) 30 = some (.getfield 31, 33, 7, 7, 0, .null, []) := rfl
theorem iGraphDeltasModel_diff_33 : ai_find (ai_tab mGraphDeltasModel_diff) 33 = some (.iconst 0, 34, 0, 0, 0, .int (nI 0), []) := rfl
theorem iGraphDeltasModel_diff_34 : ai_find (ai_tab mGraphDeltasModel_diff) 34 = some (.iaload, 35, 0, 0, 0, .null, []) := rfl
theorem iGraphDeltasModel_diff_35 : ai_find (ai_tab mGraphDeltasModel_diff) 35 = some (.ireturn, 36, 0, 0, 0, .null, []) := rfl
theorem iGraphDeltasModel_difference_0 : ai_find (ai_tab mGraphDeltasModel_difference) 0 = some (.aload_n 0, 1, 0, 0, 0, .null, []) := rfl
theorem iGraphDeltasModel_difference_1 : ai_find (ai_tab mGraphDeltasModel_difference) 1 = some (.iload_n 1, 2, 1, 0, 0, .null, []) := rfl
theorem iGraphDeltasModel_difference_2 : ai_find (ai_tab mGraphDeltasModel_difference) 2 = some (.invokevirtual 131, 5, 134, 2, 1, .ref 7, []) := rfl
theorem iGraphDeltasModel_difference_5 : ai_find (ai_tab mGraphDeltasModel_difference) 5 = some (.iconst 0, 6, 0, 0, 0, .int (nI 0), []) := rfl
theorem iGraphDeltasModel_difference_6 : ai_find (ai_tab mGraphDeltasModel_difference) 6 = some (.istore 4, 8, 4, 0, 0, .null, []) := rfl
theorem iGraphDeltasModel_difference_8 : ai_find (ai_tab mGraphDeltasModel_difference) 8 = some (.iload 4, 10, 4, 0, 0, .null, []) := rfl
theorem iGraphDeltasModel_difference_10 : ai_find (ai_tab mGraphDeltasModel_difference) 10 = some (.bipush 16, 12, 0, 0, 0, .int (nI 16), []) := rfl
theorem iGraphDeltasModel_difference_12 : ai_find (ai_tab mGraphDeltasModel_difference) 12 = some (.if_icmp .ge 64, 15, 76, 0, 0, .null, []) := rfl
theorem iGraphDeltasModel_difference_15 : ai_find (ai_tab mGraphDeltasModel_difference) 15 = some (.aload_n 0, 16, 0, 0, 0, .null, []) := rfl
theorem iGraphDeltasModel_difference_16 : ai_find (ai_tab mGraphDeltasModel_difference) 16 = some (.getfield 17, 19, 7, 3, 0, .null, []) := rfl
theorem iGraphDeltasModel_difference_19 : ai_find (ai_tab mGraphDeltasModel_difference) 19 = some (.bipush 16, 21, 0, 0, 0, .int (nI 16), []) := rfl
theorem iGraphDeltasModel_difference_21 : ai_find (ai_tab mGraphDeltasModel_difference) 21 = some (.iload_n 3, 22, 3, 0, 0, .null, []) := rfl
theorem iGraphDeltasModel_difference_22 : ai_find (ai_tab mGraphDeltasModel_difference) 22 = some (.imul, 23, 0, 0, 0, .null, []) := rfl
theorem iGraphDeltasModel_difference_23 : ai_find (ai_tab mGraphDeltasModel_difference) 23 = some (.iload 4, 25, 4, 0, 0, .null, []) := rfl
theorem iGraphDeltasModel_difference_25 : ai_find (ai_tab mGraphDeltasModel_difference) 25 = some (.iadd, 26, 0, 0, 0, .null, []) := rfl
theorem iGraphDeltasModel_difference_26 : ai_find (ai_tab mGraphDeltasModel_difference) 26 = some (.baload, 27, 0, 0, 0, .null, []) := rfl
theorem iGraphDeltasModel_difference_27 : ai_find (ai_tab mGraphDeltasModel_difference) 27 = some (.ifCond .eq 43, 30, 70, 0, 0, .null, []) := rfl
theorem iGraphDeltasModel_difference_30 : ai_find (ai_tab mGraphDeltasModel_difference) 30 = some (.aload_n 0, 31, 0, 0, 0, .null, []) := rfl
theorem iGraphDeltasModel_difference_31 : ai_find (ai_tab mGraphDeltasModel_difference) 31 = some (.getfield 17, 34, 7, 3, 0, .null, []) := rfl
theorem iGraphDeltasModel_difference_34 : ai_find (ai_tab mGraphDeltasModel_difference) 34 = some (.bipush 16, 36, 0, 0, 0, .int (nI 16), []) := rfl
theorem iGraphDeltasModel_difference_36 : ai_find (ai_tab mGraphDeltasModel_difference) 36 = some (.iload_n 2, 37, 2, 0, 0, .null, []) := rfl
theorem iGraphDeltasModel_difference_37 : ai_find (ai_tab mGraphDeltasModel_difference) 37 = some (.imul, 38, 0, 0, 0, .null, []) := rfl
theorem iGraphDeltasModel_difference_38 : ai_find (ai_tab mGraphDeltasModel_difference) 38 = some (.iload 4, 40, 4, 0, 0, .null, []) := rfl
theorem iGraphDeltasModel_difference_40 : ai_find (ai_tab mGraphDeltasModel_difference) 40 = some (.iadd, 41, 0, 0, 0, .null, []) := rfl
theorem iGraphDeltasModel_difference_41 : ai_find (ai_tab mGraphDeltasModel_difference) 41 = some (.baload, 42, 0, 0, 0, .null, []) := rfl
theorem iGraphDeltasModel_difference_42 : ai_find (ai_tab mGraphDeltasModel_difference) 42 = some (.ifCond .ne 28, 45, 70, 0, 0, .null, []) := rfl
theorem iGraphDeltasModel_difference_45 : ai_find (ai_tab mGraphDeltasModel_difference) 45 = some (.aload_n 0, 46, 0, 0, 0, .null, []) := rfl
theorem iGraphDeltasModel_difference_46 : ai_find (ai_tab mGraphDeltasModel_difference) 46 = some (.iload_n 1, 47, 1, 0, 0, .null, []) := rfl
theorem iGraphDeltasModel_difference_47 : ai_find (ai_tab mGraphDeltasModel_difference) 47 = some (.iconst 1, 48, 0, 0, 0, .int (nI 1), []) := rfl
theorem iGraphDeltasModel_difference_48 : ai_find (ai_tab mGraphDeltasModel_difference) 48 = some (.iload 4, 50, 4, 0, 0, .null, []) := rfl
theorem iGraphDeltasModel_difference_50 : ai_find (ai_tab mGraphDeltasModel_difference) 50 = some (.aload_n 0, 51, 0, 0, 0, .null, []) := rfl
theorem iGraphDeltasModel_difference_51 : ai_find (ai_tab mGraphDeltasModel_difference) 51 = some (.getfield 13, 54, 7, 1, 0, .null, []) := rfl
theorem iGraphDeltasModel_difference_54 : ai_find (ai_tab mGraphDeltasModel_difference) 54 = some (.iload 4, 56, 4, 0, 0, .null, []) := rfl
theorem iGraphDeltasModel_difference_56 : ai_find (ai_tab mGraphDeltasModel_difference) 56 = some (.baload, 57, 0, 0, 0, .null, []) := rfl
theorem iGraphDeltasModel_difference_57 : ai_find (ai_tab mGraphDeltasModel_difference) 57 = some (.ifCond .eq 7, 60, 64, 0, 0, .null, []) := rfl
theorem iGraphDeltasModel_difference_60 : ai_find (ai_tab mGraphDeltasModel_difference) 60 = some (.iconst 1, 61, 0, 0, 0, .int (nI 1), []) := rfl
theorem iGraphDeltasModel_difference_61 : ai_find (ai_tab mGraphDeltasModel_difference) 61 = some (.goto 4, 64, 65, 0, 0, .null, []) := rfl
theorem iGraphDeltasModel_difference_64 : ai_find (ai_tab mGraphDeltasModel_difference) 64 = some (.iconst 0, 65, 0, 0, 0, .int (nI 0), []) := rfl
theorem iGraphDeltasModel_difference_65 : ai_find (ai_tab mGraphDeltasModel_difference) 65 = some (.iconst 0, 66, 0, 0, 0, .int (nI 0), []) := rfl
theorem iGraphDeltasModel_difference_66 : ai_find (ai_tab mGraphDeltasModel_difference) 66 = some (.lconst 0, 67, 0, 0, 0, .long 0, []) := rfl
theorem iGraphDeltasModel_difference_67 : ai_find (ai_tab mGraphDeltasModel_difference) 67 = some (.invokevirtual 116, 70, 119, 7, 1, .ref 7, []) := rfl
theorem iGraphDeltasModel_difference_70 : ai_find (ai_tab mGraphDeltasModel_difference) 70 = some (.iinc 4 1, 73, 4, 0, 0, .int (nI 1), []) := rfl
theorem iGraphDeltasModel_difference_73 : ai_find (ai_tab mGraphDeltasModel_difference) 73 = some (.goto (-65), 76, 8, 0, 0, .null, []) := rfl
theorem iGraphDeltasModel_difference_76 : ai_find (ai_tab mGraphDeltasModel_difference) 76 = some (.iconst 0, 77, 0, 0, 0, .int (nI 0), []) := rfl
theorem iGraphDeltasModel_difference_77 : ai_find (ai_tab mGraphDeltasModel_difference) 77 = some (.istore 4, 79, 4, 0, 0, .null, []) := rfl
theorem iGraphDeltasModel_difference_79 : ai_find (ai_tab mGraphDeltasModel_difference) 79 = some (.iload 4, 81, 4, 0, 0, .null, []) := rfl
theorem iGraphDeltasModel_difference_81 : ai_find (ai_tab mGraphDeltasModel_difference) 81 = some (.bipush 16, 83, 0, 0, 0, .int (nI 16), []) := rfl
theorem iGraphDeltasModel_difference_83 : ai_find (ai_tab mGraphDeltasModel_difference) 83 = some (.if_icmp .ge 70, 86, 153, 0, 0, .null, []) := rfl
theorem iGraphDeltasModel_difference_86 : ai_find (ai_tab mGraphDeltasModel_difference) 86 = some (.aload_n 0, 87, 0, 0, 0, .null, []) := rfl
theorem iGraphDeltasModel_difference_87 : ai_find (ai_tab mGraphDeltasModel_difference) 87 = some (.getfield 17, 90, 7, 3, 0, .null, []) := rfl
theorem iGraphDeltasModel_difference_90 : ai_find (ai_tab mGraphDeltasModel_difference) 90 = some (.bipush 16, 92, 0, 0, 0, .int (nI 16), []) := rfl
theorem iGraphDeltasModel_difference_92 : ai_find (ai_tab mGraphDeltasModel_difference) 92 = some (.iload_n 3, 93, 3, 0, 0, .null, []) := rfl
theorem iGraphDeltasModel_difference_93 : ai_find (ai_tab mGraphDeltasModel_difference) 93 = some (.imul, 94, 0, 0, 0, .null, []) := rfl
theorem iGraphDeltasModel_difference_94 : ai_find (ai_tab mGraphDeltasModel_difference) 94 = some (.iload 4, 96, 4, 0, 0, .null, []) := rfl
theorem iGraphDeltasModel_difference_96 : ai_find (ai_tab mGraphDeltasModel_difference) 96 = some (.iadd, 97, 0, 0, 0, .null, []) := rfl
theorem iGraphDeltasModel_difference_97 : ai_find (ai_tab mGraphDeltasModel_difference) 97 = some (.baload, 98, 0, 0, 0, .null, []) := rfl
theorem iGraphDeltasModel_difference_98 : ai_find (ai_tab mGraphDeltasModel_difference) 98 = some (.ifCond .eq 25, 101, 123, 0, 0, .null, []) := rfl
theorem iGraphDeltasModel_difference_101 : ai_find (ai_tab mGraphDeltasModel_difference) 101 = some (.aload_n 0, 102, 0, 0, 0, .null, []) := rfl
theorem iGraphDeltasModel_difference_102 : ai_find (ai_tab mGraphDeltasModel_difference) 102 = some (.getfield 13, 105, 7, 1, 0, .null, []) := rfl
theorem iGraphDeltasModel_difference_105 : ai_find (ai_tab mGraphDeltasModel_difference) 105 = some (.iload 4, 107, 4, 0, 0, .null, []) := rfl
theorem iGraphDeltasModel_difference_107 : ai_find (ai_tab mGraphDeltasModel_difference) 107 = some (.baload, 108, 0, 0, 0, .null, []) := rfl
set_option maxRecDepth 20000 in theorem iGraphDeltasModel_difference_108 : ai_find (ai_tab mGraphDeltasModel_difference) 108 = some (.ifCond .eq 15, 111, 123, 0, 0, .null, []) := rfl
set_option maxRecDepth 20000 in theorem iGraphDeltasModel_difference_111 : ai_find (ai_tab mGraphDeltasModel_difference) 111 = some (.aload_n 0, 112, 0, 0, 0, .null, []) := rfl
set_option maxRecDepth 20000 in theorem iGraphDeltasModel_difference_112 : ai_find (ai_tab mGraphDeltasModel_difference) 112 = some (.iload_n 1, 113, 1, 0, 0, .null, []) := rfl
set_option maxRecDepth 20000 in theorem iGraphDeltasModel_difference_113 : ai_find (ai_tab mGraphDeltasModel_difference) 113 = some (.iload_n 2, 114, 2, 0, 0, .null, []) := rfl
set_option maxRecDepth 20000 in theorem iGraphDeltasModel_difference_114 : ai_find (ai_tab mGraphDeltasModel_difference) 114 = some (.iload_n 3, 115, 3, 0, 0, .null, []) := rfl
set_option maxRecDepth 20000 in theorem iGraphDeltasModel_difference_115 : ai_find (ai_tab mGraphDeltasModel_difference) 115 = some (.iload 4, 117, 4, 0, 0, .null, []) := rfl
set_option maxRecDepth 20000 in theorem iGraphDeltasModel_difference_117 : ai_find (ai_tab mGraphDeltasModel_difference) 117 = some (.invokevirtual 134, 120, 173, 5, 1, .ref 7, []) := rfl
set_option maxRecDepth 20000 in theorem iGraphDeltasModel_difference_120 : ai_find (ai_tab mGraphDeltasModel_difference) 120 = some (.goto 27, 123, 147, 0, 0, .null, []) := rfl
set_option maxRecDepth 20000 in theorem iGraphDeltasModel_difference_123 : ai_find (ai_tab mGraphDeltasModel_difference) 123 = some (.aload_n 0, 124, 0, 0, 0, .null, []) := rfl
set_option maxRecDepth 20000 in theorem iGraphDeltasModel_difference_124 : ai_find (ai_tab mGraphDeltasModel_difference) 124 = some (.getfield 17, 127, 7, 3, 0, .null, []) := rfl
set_option maxRecDepth 20000 in theorem iGraphDeltasModel_difference_127 : ai_find (ai_tab mGraphDeltasModel_difference) 127 = some (.bipush 16, 129, 0, 0, 0, .int (nI 16), []) := rfl
set_option maxRecDepth 20000 in theorem iGraphDeltasModel_difference_129 : ai_find (ai_tab mGraphDeltasModel_difference) 129 = some (.iload_n 3, 130, 3, 0, 0, .null, []) := rfl
set_option maxRecDepth 20000 in theorem iGraphDeltasModel_difference_130 : ai_find (ai_tab mGraphDeltasModel_difference) 130 = some (.imul, 131, 0, 0, 0, .null, []) := rfl
set_option maxRecDepth 20000 in theorem iGraphDeltasModel_difference_131 : ai_find (ai_tab mGraphDeltasModel_difference) 131 = some (.iload 4, 133, 4, 0, 0, .null, []) := rfl
set_option maxRecDepth 20000 in theorem iGraphDeltasModel_difference_133 : ai_find (ai_tab mGraphDeltasModel_difference) 133 = some (.iadd, 134, 0, 0, 0, .null, []) := rfl
set_option maxRecDepth 20000 in theorem iGraphDeltasModel_difference_134 : ai_find (ai_tab mGraphDeltasModel_difference) 134 = some (.baload, 135, 0, 0, 0, .null, []) := rfl
set_option maxRecDepth 20000 in theorem iGraphDeltasModel_difference_135 : ai_find (ai_tab mGraphDeltasModel_difference) 135 = some (.ifCond .eq 12, 138, 147, 0, 0, .null, []) := rfl
set_option maxRecDepth 20000 in theorem iGraphDeltasModel_difference_138 : ai_find (ai_tab mGraphDeltasModel_difference) 138 = some (.aload_n 0, 139, 0, 0, 0, .null, []) := rfl
set_option maxRecDepth 20000 in theorem iGraphDeltasModel_difference_139 : ai_find (ai_tab mGraphDeltasModel_difference) 139 = some (.iload_n 1, 140, 1, 0, 0, .null, []) := rfl
set_option maxRecDepth 20000 in theorem iGraphDeltasModel_difference_140 : ai_find (ai_tab mGraphDeltasModel_difference) 140 = some (.iload_n 2, 141, 2, 0, 0, .null, []) := rfl
set_option maxRecDepth 20000 in theorem iGraphDeltasModel_difference_141 : ai_find (ai_tab mGraphDeltasModel_difference) 141 = some (.iload_n 3, 142, 3, 0, 0, .null, []) := rfl
set_option maxRecDepth 20000 in theorem iGraphDeltasModel_difference_142 : ai_find (ai_tab mGraphDeltasModel_difference) 142 = some (.iload 4, 144, 4, 0, 0, .null, []) := rfl
set_option maxRecDepth 20000 in theorem iGraphDeltasModel_difference_144 : ai_find (ai_tab mGraphDeltasModel_difference) 144 = some (.invokevirtual 138, 147, 167, 5, 1, .ref 7, []) := rfl
set_option maxRecDepth 20000 in theorem iGraphDeltasModel_difference_147 : ai_find (ai_tab mGraphDeltasModel_difference) 147 = some (.iinc 4 1, 150, 4, 0, 0, .int (nI 1), []) := rfl
set_option maxRecDepth 20000 in theorem iGraphDeltasModel_difference_150 : ai_find (ai_tab mGraphDeltasModel_difference) 150 = some (.goto (-71), 153, 79, 0, 0, .null, []) := rfl
set_option maxRecDepth 20000 in theorem iGraphDeltasModel_difference_153 : ai_find (ai_tab mGraphDeltasModel_difference) 153 = some (.return_, 154, 0, 0, 0, .null, []) := rfl
theorem iGraphDeltasModel_empty_0 : ai_find (ai_tab mGraphDeltasModel_empty) 0 = some (.aload_n 0, 1, 0, 0, 0, .null, []) := rfl
theorem iGraphDeltasModel_empty_1 : ai_find (ai_tab mGraphDeltasModel_empty) 1 = some (.getfield 31, 4, 7, 7, 0, .null, []) := rfl
theorem iGraphDeltasModel_empty_4 : ai_find (ai_tab mGraphDeltasModel_empty) 4 = some (.iload_n 1, 5, 1, 0, 0, .null, []) := rfl
theorem iGraphDeltasModel_empty_5 : ai_find (ai_tab mGraphDeltasModel_empty) 5 = some (.iconst 0, 6, 0, 0, 0, .int (nI 0), []) := rfl
theorem iGraphDeltasModel_empty_6 : ai_find (ai_tab mGraphDeltasModel_empty) 6 = some (.iastore, 7, 0, 0, 0, .null, []) := rfl
theorem iGraphDeltasModel_empty_7 : ai_find (ai_tab mGraphDeltasModel_empty) 7 = some (.aload_n 0, 8, 0, 0, 0, .null, []) := rfl
theorem iGraphDeltasModel_empty_8 : ai_find (ai_tab mGraphDeltasModel_empty) 8 = some (.getfield 52, 11, 7, 14, 0, .null, []) := rfl
theorem iGraphDeltasModel_empty_11 : ai_find (ai_tab mGraphDeltasModel_empty) 11 = some (.iload_n 1, 12, 1, 0, 0, .null, []) := rfl
theorem iGraphDeltasModel_empty_12 : ai_find (ai_tab mGraphDeltasModel_empty) 12 = some (.sipush 1300, 15, 0, 0, 0, .int (nI 1300), []) := rfl
theorem iGraphDeltasModel_empty_15 : ai_find (ai_tab mGraphDeltasModel_empty) 15 = some (.iload_n 1, 16, 1, 0, 0, .null, []) := rfl
theorem iGraphDeltasModel_empty_16 : ai_find (ai_tab mGraphDeltasModel_empty) 16 = some (.imul, 17, 0, 0, 0, .null, []) := rfl
theorem iGraphDeltasModel_empty_17 : ai_find (ai_tab mGraphDeltasModel_empty) 17 = some (.iastore, 18, 0, 0, 0, .null, []) := rfl
theorem iGraphDeltasModel_empty_18 : ai_find (ai_tab mGraphDeltasModel_empty) 18 = some (.return_, 19, 0, 0, 0, .null, []) := rfl
theorem iGraphDeltasModel_encode_0 : ai_find (ai_tab mGraphDeltasModel_encode) 0 = some (.aload_n 0, 1, 0, 0, 0, .null, []) := rfl
theorem iGraphDeltasModel_encode_1 : ai_find (ai_tab mGraphDeltasModel_encode) 1 = some (.iconst 0, 2, 0, 0, 0, .int (nI 0), []) := rfl
theorem iGraphDeltasModel_encode_2 : ai_find (ai_tab mGraphDeltasModel_encode) 2 = some (.invokevirtual 207, 5, 178, 2, 1, .ref 7, []) := rfl
theorem iGraphDeltasModel_encode_5 : ai_find (ai_tab mGraphDeltasModel_encode) 5 = some (.iconst 0, 6, 0, 0, 0, .int (nI 0), []) := rfl
theorem iGraphDeltasModel_encode_6 : ai_find (ai_tab mGraphDeltasModel_encode) 6 = some (.istore_n 1, 7, 1, 0, 0, .null, []) := rfl
theorem iGraphDeltasModel_encode_7 : ai_find (ai_tab mGraphDeltasModel_encode) 7 = some (.iload_n 1, 8, 1, 0, 0, .null, []) := rfl
theorem iGraphDeltasModel_encode_8 : ai_find (ai_tab mGraphDeltasModel_encode) 8 = some (.aload_n 0, 9, 0, 0, 0, .null, []) := rfl
theorem iGraphDeltasModel_encode_9 : ai_find (ai_tab mGraphDeltasModel_encode) 9 = some (.getfield 191, 12, 7, 20, 0, .null, []) := rfl
theorem iGraphDeltasModel_encode_12 : ai_find (ai_tab mGraphDeltasModel_encode) 12 = some (.if_icmp .ge 21, 15, 33, 0, 0, .null, []) := rfl
theorem iGraphDeltasModel_encode_15 : ai_find (ai_tab mGraphDeltasModel_encode) 15 = some (.aload_n 0, 16, 0, 0, 0, .null, []) := rfl
theorem iGraphDeltasModel_encode_16 : ai_find (ai_tab mGraphDeltasModel_encode) 16 = some (.getfield 61, 19, 7, 19, 0, .null, []) := rfl
theorem iGraphDeltasModel_encode_19 : ai_find (ai_tab mGraphDeltasModel_encode) 19 = some (.iload_n 1, 20, 1, 0, 0, .null, []) := rfl
theorem iGraphDeltasModel_encode_20 : ai_find (ai_tab mGraphDeltasModel_encode) 20 = some (.aload_n 0, 21, 0, 0, 0, .null, []) := rfl
theorem iGraphDeltasModel_encode_21 : ai_find (ai_tab mGraphDeltasModel_encode) 21 = some (.getfield 64, 24, 7, 21, 0, .null, []) := rfl
theorem iGraphDeltasModel_encode_24 : ai_find (ai_tab mGraphDeltasModel_encode) 24 = some (.iload_n 1, 25, 1, 0, 0, .null, []) := rfl
theorem iGraphDeltasModel_encode_25 : ai_find (ai_tab mGraphDeltasModel_encode) 25 = some (.iaload, 26, 0, 0, 0, .null, []) := rfl
theorem iGraphDeltasModel_encode_26 : ai_find (ai_tab mGraphDeltasModel_encode) 26 = some (.iastore, 27, 0, 0, 0, .null, []) := rfl
theorem iGraphDeltasModel_encode_27 : ai_find (ai_tab mGraphDeltasModel_encode) 27 = some (.iinc 1 1, 30, 1, 0, 0, .int (nI 1), []) := rfl
theorem iGraphDeltasModel_encode_30 : ai_find (ai_tab mGraphDeltasModel_encode) 30 = some (.goto (-23), 33, 7, 0, 0, .null, []) := rfl
theorem iGraphDeltasModel_encode_33 : ai_find (ai_tab mGraphDeltasModel_encode) 33 = some (.aload_n 0, 34, 0, 0, 0, .null, []) := rfl
theorem iGraphDeltasModel_encode_34 : ai_find (ai_tab mGraphDeltasModel_encode) 34 = some (.aload_n 0, 35, 0, 0, 0, .null, []) := rfl
theorem iGraphDeltasModel_encode_35 : ai_find (ai_tab mGraphDeltasModel_encode) 35 = some (.getfield 191, 38, 7, 20, 0, .null, []) := rfl
theorem iGraphDeltasModel_encode_38 : ai_find (ai_tab mGraphDeltasModel_encode) 38 = some (.putfield 210, 41, 7, 18, 0, .null, []) := rfl
theorem iGraphDeltasModel_encode_41 : ai_find (ai_tab mGraphDeltasModel_encode) 41 = some (.aload_n 0, 42, 0, 0, 0, .null, []) := rfl
theorem iGraphDeltasModel_encode_42 : ai_find (ai_tab mGraphDeltasModel_encode) 42 = some (.getfield 210, 45, 7, 18, 0, .null, []) := rfl
theorem iGraphDeltasModel_encode_45 : ai_find (ai_tab mGraphDeltasModel_encode) 45 = some (.ireturn, 46, 0, 0, 0, .null, []) := rfl
theorem iGraphDeltasModel_equal_0 : ai_find (ai_tab mGraphDeltasModel_equal) 0 = some (.aload_n 0, 1, 0, 0, 0, .null, []) := rfl
theorem iGraphDeltasModel_equal_1 : ai_find (ai_tab mGraphDeltasModel_equal) 1 = some (.getfield 34, 4, 7, 8, 0, .null, []) := rfl
theorem iGraphDeltasModel_equal_4 : ai_find (ai_tab mGraphDeltasModel_equal) 4 = some (.iload_n 1, 5, 1, 0, 0, .null, []) := rfl
theorem iGraphDeltasModel_equal_5 : ai_find (ai_tab mGraphDeltasModel_equal) 5 = some (.iaload, 6, 0, 0, 0, .null, []) := rfl
theorem iGraphDeltasModel_equal_6 : ai_find (ai_tab mGraphDeltasModel_equal) 6 = some (.aload_n 0, 7, 0, 0, 0, .null, []) := rfl
theorem iGraphDeltasModel_equal_7 : ai_find (ai_tab mGraphDeltasModel_equal) 7 = some (.getfield 34, 10, 7, 8, 0, .null, []) := rfl
theorem iGraphDeltasModel_equal_10 : ai_find (ai_tab mGraphDeltasModel_equal) 10 = some (.iload_n 2, 11, 2, 0, 0, .null, []) := rfl
theorem iGraphDeltasModel_equal_11 : ai_find (ai_tab mGraphDeltasModel_equal) 11 = some (.iaload, 12, 0, 0, 0, .null, []) := rfl
theorem iGraphDeltasModel_equal_12 : ai_find (ai_tab mGraphDeltasModel_equal) 12 = some (.if_icmp .ne 68, 15, 80, 0, 0, .null, []) := rfl
theorem iGraphDeltasModel_equal_15 : ai_find (ai_tab mGraphDeltasModel_equal) 15 = some (.aload_n 0, 16, 0, 0, 0, .null, []) := rfl
theorem iGraphDeltasModel_equal_16 : ai_find (ai_tab mGraphDeltasModel_equal) 16 = some (.getfield 37, 19, 7, 9, 0, .null, []) := rfl
theorem iGraphDeltasModel_equal_19 : ai_find (ai_tab mGraphDeltasModel_equal) 19 = some (.iload_n 1, 20, 1, 0, 0, .null, []) := rfl
theorem iGraphDeltasModel_equal_20 : ai_find (ai_tab mGraphDeltasModel_equal) 20 = some (.iaload, 21, 0, 0, 0, .null, []) := rfl
theorem iGraphDeltasModel_equal_21 : ai_find (ai_tab mGraphDeltasModel_equal) 21 = some (.aload_n 0, 22, 0, 0, 0, .null, []) := rfl
theorem iGraphDeltasModel_equal_22 : ai_find (ai_tab mGraphDeltasModel_equal) 22 = some (.getfield 37, 25, 7, 9, 0, .null, []) := rfl
theorem iGraphDeltasModel_equal_25 : ai_find (ai_tab mGraphDeltasModel_equal) 25 = some (.iload_n 2, 26, 2, 0, 0, .null, []) := rfl
theorem iGraphDeltasModel_equal_26 : ai_find (ai_tab mGraphDeltasModel_equal) 26 = some (.iaload, 27, 0, 0, 0, .null, []) := rfl
theorem iGraphDeltasModel_equal_27 : ai_find (ai_tab mGraphDeltasModel_equal) 27 = some (.if_icmp .ne 53, 30, 80, 0, 0, .null, []) := rfl
theorem iGraphDeltasModel_equal_30 : ai_find (ai_tab mGraphDeltasModel_equal) 30 = some (.aload_n 0, 31, 0, 0, 0, .null, []) := rfl
theorem iGraphDeltasModel_equal_31 : ai_find (ai_tab mGraphDeltasModel_equal) 31 = some (.getfield 40, 34, 7, 10, 0, .null, []) := rfl
theorem iGraphDeltasModel_equal_34 : ai_find (ai_tab mGraphDeltasModel_equal) 34 = some (.iload_n 1, 35, 1, 0, 0, .null, []) := rfl
theorem iGraphDeltasModel_equal_35 : ai_find (ai_tab mGraphDeltasModel_equal) 35 = some (.iaload, 36, 0, 0, 0, .null, []) := rfl
theorem iGraphDeltasModel_equal_36 : ai_find (ai_tab mGraphDeltasModel_equal) 36 = some (.aload_n 0, 37, 0, 0, 0, .null, []) := rfl
theorem iGraphDeltasModel_equal_37 : ai_find (ai_tab mGraphDeltasModel_equal) 37 = some (.getfield 40, 40, 7, 10, 0, .null, []) := rfl
theorem iGraphDeltasModel_equal_40 : ai_find (ai_tab mGraphDeltasModel_equal) 40 = some (.iload_n 2, 41, 2, 0, 0, .null, []) := rfl
theorem iGraphDeltasModel_equal_41 : ai_find (ai_tab mGraphDeltasModel_equal) 41 = some (.iaload, 42, 0, 0, 0, .null, []) := rfl
theorem iGraphDeltasModel_equal_42 : ai_find (ai_tab mGraphDeltasModel_equal) 42 = some (.if_icmp .ne 38, 45, 80, 0, 0, .null, []) := rfl
theorem iGraphDeltasModel_equal_45 : ai_find (ai_tab mGraphDeltasModel_equal) 45 = some (.aload_n 0, 46, 0, 0, 0, .null, []) := rfl
theorem iGraphDeltasModel_equal_46 : ai_find (ai_tab mGraphDeltasModel_equal) 46 = some (.getfield 43, 49, 7, 11, 0, .null, []) := rfl
theorem iGraphDeltasModel_equal_49 : ai_find (ai_tab mGraphDeltasModel_equal) 49 = some (.iload_n 1, 50, 1, 0, 0, .null, []) := rfl
theorem iGraphDeltasModel_equal_50 : ai_find (ai_tab mGraphDeltasModel_equal) 50 = some (.iaload, 51, 0, 0, 0, .null, []) := rfl
theorem iGraphDeltasModel_equal_51 : ai_find (ai_tab mGraphDeltasModel_equal) 51 = some (.aload_n 0, 52, 0, 0, 0, .null, []) := rfl
theorem iGraphDeltasModel_equal_52 : ai_find (ai_tab mGraphDeltasModel_equal) 52 = some (.getfield 43, 55, 7, 11, 0, .null, []) := rfl
theorem iGraphDeltasModel_equal_55 : ai_find (ai_tab mGraphDeltasModel_equal) 55 = some (.iload_n 2, 56, 2, 0, 0, .null, []) := rfl
theorem iGraphDeltasModel_equal_56 : ai_find (ai_tab mGraphDeltasModel_equal) 56 = some (.iaload, 57, 0, 0, 0, .null, []) := rfl
theorem iGraphDeltasModel_equal_57 : ai_find (ai_tab mGraphDeltasModel_equal) 57 = some (.if_icmp .ne 23, 60, 80, 0, 0, .null, []) := rfl
theorem iGraphDeltasModel_equal_60 : ai_find (ai_tab mGraphDeltasModel_equal) 60 = some (.aload_n 0, 61, 0, 0, 0, .null, []) := rfl
theorem iGraphDeltasModel_equal_61 : ai_find (ai_tab mGraphDeltasModel_equal) 61 = some (.getfield 46, 64, 7, 12, 0, .null, []) := rfl
theorem iGraphDeltasModel_equal_64 : ai_find (ai_tab mGraphDeltasModel_equal) 64 = some (.iload_n 1, 65, 1, 0, 0, .null, []) := rfl
theorem iGraphDeltasModel_equal_65 : ai_find (ai_tab mGraphDeltasModel_equal) 65 = some (.laload, 66, 0, 0, 0, .null, []) := rfl
theorem iGraphDeltasModel_equal_66 : ai_find (ai_tab mGraphDeltasModel_equal) 66 = some (.aload_n 0, 67, 0, 0, 0, .null, []) := rfl
theorem iGraphDeltasModel_equal_67 : ai_find (ai_tab mGraphDeltasModel_equal) 67 = some (.getfield 46, 70, 7, 12, 0, .null, []) := rfl
theorem iGraphDeltasModel_equal_70 : ai_find (ai_tab mGraphDeltasModel_equal) 70 = some (.iload_n 2, 71, 2, 0, 0, .null, []) := rfl
theorem iGraphDeltasModel_equal_71 : ai_find (ai_tab mGraphDeltasModel_equal) 71 = some (.laload, 72, 0, 0, 0, .null, []) := rfl
theorem iGraphDeltasModel_equal_72 : ai_find (ai_tab mGraphDeltasModel_equal) 72 = some (.lcmp, 73, 0, 0, 0, .null, []) := rfl
theorem iGraphDeltasModel_equal_73 : ai_find (ai_tab mGraphDeltasModel_equal) 73 = some (.ifCond .ne 7, 76, 80, 0, 0, .null, []) := rfl
theorem iGraphDeltasModel_equal_76 : ai_find (ai_tab mGraphDeltasModel_equal) 76 = some (.iconst 1, 77, 0, 0, 0, .int (nI 1), []) := rfl
theorem iGraphDeltasModel_equal_77 : ai_find (ai_tab mGraphDeltasModel_equal) 77 = some (.goto 4, 80, 81, 0, 0, .null, []) := rfl
theorem iGraphDeltasModel_equal_80 : ai_find (ai_tab mGraphDeltasModel_equal) 80 = some (.iconst 0, 81, 0, 0, 0, .int (nI 0), []) := rfl
theorem iGraphDeltasModel_equal_81 : ai_find (ai_tab mGraphDeltasModel_equal) 81 = some (.istore_n 3, 82, 3, 0, 0, .null, []) := rfl
theorem iGraphDeltasModel_equal_82 : ai_find (ai_tab mGraphDeltasModel_equal) 82 = some (.iconst 0, 83, 0, 0, 0, .int (nI 0), []) := rfl
theorem iGraphDeltasModel_equal_83 : ai_find (ai_tab mGraphDeltasModel_equal) 83 = some (.istore 4, 85, 4, 0, 0, .null, []) := rfl
theorem iGraphDeltasModel_equal_85 : ai_find (ai_tab mGraphDeltasModel_equal) 85 = some (.iload_n 3, 86, 3, 0, 0, .null, []) := rfl
theorem iGraphDeltasModel_equal_86 : ai_find (ai_tab mGraphDeltasModel_equal) 86 = some (.ifCond .eq 69, 89, 155, 0, 0, .null, []) := rfl
theorem iGraphDeltasModel_equal_89 : ai_find (ai_tab mGraphDeltasModel_equal) 89 = some (.aload_n 0, 90, 0, 0, 0, .null, []) := rfl
theorem iGraphDeltasModel_equal_90 : ai_find (ai_tab mGraphDeltasModel_equal) 90 = some (.getfield 34, 93, 7, 8, 0, .null, []) := rfl
theorem iGraphDeltasModel_equal_93 : ai_find (ai_tab mGraphDeltasModel_equal) 93 = some (.iload_n 1, 94, 1, 0, 0, .null, []) := rfl
theorem iGraphDeltasModel_equal_94 : ai_find (ai_tab mGraphDeltasModel_equal) 94 = some (.iaload, 95, 0, 0, 0, .null, []) := rfl
theorem iGraphDeltasModel_equal_95 : ai_find (ai_tab mGraphDeltasModel_equal) 95 = some (.iconst 3, 96, 0, 0, 0, .int (nI 3), []) := rfl
theorem iGraphDeltasModel_equal_96 : ai_find (ai_tab mGraphDeltasModel_equal) 96 = some (.if_icmp .ne 59, 99, 155, 0, 0, .null, []) := rfl
theorem iGraphDeltasModel_equal_99 : ai_find (ai_tab mGraphDeltasModel_equal) 99 = some (.iload 4, 101, 4, 0, 0, .null, []) := rfl
set_option maxRecDepth 20000 in theorem iGraphDeltasModel_equal_101 : ai_find (ai_tab mGraphDeltasModel_equal) 101 = some (.i2l, 102, 0, 0, 0, .null, []) := rfl
set_option maxRecDepth 20000 in theorem iGraphDeltasModel_equal_102 : ai_find (ai_tab mGraphDeltasModel_equal) 102 = some (.aload_n 0, 103, 0, 0, 0, .null, []) := rfl
set_option maxRecDepth 20000 in theorem iGraphDeltasModel_equal_103 : ai_find (ai_tab mGraphDeltasModel_equal) 103 = some (.getfield 46, 106, 7, 12, 0, .null, []) := rfl
set_option maxRecDepth 20000 in theorem iGraphDeltasModel_equal_106 : ai_find (ai_tab mGraphDeltasModel_equal) 106 = some (.iload_n 1, 107, 1, 0, 0, .null, []) := rfl
set_option maxRecDepth 20000 in theorem iGraphDeltasModel_equal_107 : ai_find (ai_tab mGraphDeltasModel_equal) 107 = some (.laload, 108, 0, 0, 0, .null, []) := rfl
set_option maxRecDepth 20000 in theorem iGraphDeltasModel_equal_108 : ai_find (ai_tab mGraphDeltasModel_equal) 108 = some (.lcmp, 109, 0, 0, 0, .null, []) := rfl
set_option maxRecDepth 20000 in theorem iGraphDeltasModel_equal_109 : ai_find (ai_tab mGraphDeltasModel_equal) 109 = some (.ifCond .ge 46, 112, 155, 0, 0, .null, []) := rfl
set_option maxRecDepth 20000 in theorem iGraphDeltasModel_equal_112 : ai_find (ai_tab mGraphDeltasModel_equal) 112 = some (.aload_n 0, 113, 0, 0, 0, .null, []) := rfl
set_option maxRecDepth 20000 in theorem iGraphDeltasModel_equal_113 : ai_find (ai_tab mGraphDeltasModel_equal) 113 = some (.getfield 55, 116, 7, 15, 0, .null, []) := rfl
set_option maxRecDepth 20000 in theorem iGraphDeltasModel_equal_116 : ai_find (ai_tab mGraphDeltasModel_equal) 116 = some (.aload_n 0, 117, 0, 0, 0, .null, []) := rfl
set_option maxRecDepth 20000 in theorem iGraphDeltasModel_equal_117 : ai_find (ai_tab mGraphDeltasModel_equal) 117 = some (.getfield 49, 120, 7, 13, 0, .null, []) := rfl
set_option maxRecDepth 20000 in theorem iGraphDeltasModel_equal_120 : ai_find (ai_tab mGraphDeltasModel_equal) 120 = some (.iload_n 1, 121, 1, 0, 0, .null, []) := rfl
set_option maxRecDepth 20000 in theorem iGraphDeltasModel_equal_121 : ai_find (ai_tab mGraphDeltasModel_equal) 121 = some (.iaload, 122, 0, 0, 0, .null, []) := rfl
set_option maxRecDepth 20000 in theorem iGraphDeltasModel_equal_122 : ai_find (ai_tab mGraphDeltasModel_equal) 122 = some (.iload 4, 124, 4, 0, 0, .null, []) := rfl
set_option maxRecDepth 20000 in theorem iGraphDeltasModel_equal_124 : ai_find (ai_tab mGraphDeltasModel_equal) 124 = some (.iadd, 125, 0, 0, 0, .null, []) := rfl
set_option maxRecDepth 20000 in theorem iGraphDeltasModel_equal_125 : ai_find (ai_tab mGraphDeltasModel_equal) 125 = some (.iaload, 126, 0, 0, 0, .null, []) := rfl
set_option maxRecDepth 20000 in theorem iGraphDeltasModel_equal_126 : ai_find (ai_tab mGraphDeltasModel_equal) 126 = some (.aload_n 0, 127, 0, 0, 0, .null, []) := rfl
set_option maxRecDepth 20000 in theorem iGraphDeltasModel_equal_127 : ai_find (ai_tab mGraphDeltasModel_equal) 127 = some (.getfield 55, 130, 7, 15, 0, .null, []) := rfl
set_option maxRecDepth 20000 in theorem iGraphDeltasModel_equal_130 : ai_find (ai_tab mGraphDeltasModel_equal) 130 = some (.aload_n 0, 131, 0, 0, 0, .null, []) := rfl
set_option maxRecDepth 20000 in theorem iGraphDeltasModel_equal_131 : ai_find (ai_tab mGraphDeltasModel_equal) 131 = some (.getfield 49, 134, 7, 13, 0, .null, []) := rfl
set_option maxRecDepth 20000 in theorem iGraphDeltasModel_equal_134 : ai_find (ai_tab mGraphDeltasModel_equal) 134 = some (.iload_n 2, 135, 2, 0, 0, .null, []) := rfl
set_option maxRecDepth 20000 in theorem iGraphDeltasModel_equal_135 : ai_find (ai_tab mGraphDeltasModel_equal) 135 = some (.iaload, 136, 0, 0, 0, .null, []) := rfl
set_option maxRecDepth 20000 in theorem iGraphDeltasModel_equal_136 : ai_find (ai_tab mGraphDeltasModel_equal) 136 = some (.iload 4, 138, 4, 0, 0, .null, []) := rfl
set_option maxRecDepth 20000 in theorem iGraphDeltasModel_equal_138 : ai_find (ai_tab mGraphDeltasModel_equal) 138 = some (.iadd, 139, 0, 0, 0, .null, []) := rfl
set_option maxRecDepth 20000 in theorem iGraphDeltasModel_equal_139 : ai_find (ai_tab mGraphDeltasModel_equal) 139 = some (.iaload, 140, 0, 0, 0, .null, []) := rfl
set_option maxRecDepth 20000 in theorem iGraphDeltasModel_equal_140 : ai_find (ai_tab mGraphDeltasModel_equal) 140 = some (.if_icmp .ne 7, 143, 147, 0, 0, .null, []) := rfl
set_option maxRecDepth 20000 in theorem iGraphDeltasModel_equal_143 : ai_find (ai_tab mGraphDeltasModel_equal) 143 = some (.iconst 1, 144, 0, 0, 0, .int (nI 1), []) := rfl
set_option maxRecDepth 20000 in theorem iGraphDeltasModel_equal_144 : ai_find (ai_tab mGraphDeltasModel_equal) 144 = some (.goto 4, 147, 148, 0, 0, .null, []) := rfl
set_option maxRecDepth 20000 in theorem iGraphDeltasModel_equal_147 : ai_find (ai_tab mGraphDeltasModel_equal) 147 = some (.iconst 0, 148, 0, 0, 0, .int (nI 0), []) := rfl
set_option maxRecDepth 20000 in theorem iGraphDeltasModel_equal_148 : ai_find (ai_tab mGraphDeltasModel_equal) 148 = some (.istore_n 3, 149, 3, 0, 0, .null, []) := rfl
set_option maxRecDepth 20000 in theorem iGraphDeltasModel_equal_149 : ai_find (ai_tab mGraphDeltasModel_equal) 149 = some (.iinc 4 1, 152, 4, 0, 0, .int (nI 1), []) := rfl
set_option maxRecDepth 20000 in theorem iGraphDeltasModel_equal_152 : ai_find (ai_tab mGraphDeltasModel_equal) 152 = some (.goto (-67), 155, 85, 0, 0, .null, []) := rfl
set_option maxRecDepth 20000 in theorem iGraphDeltasModel_equal_155 : ai_find (ai_tab mGraphDeltasModel_equal) 155 = some (.iload_n 3, 156, 3, 0, 0, .null, []) := rfl
set_option maxRecDepth 20000 in theorem iGraphDeltasModel_equal_156 : ai_find (ai_tab mGraphDeltasModel_equal) 156 = some (.ireturn, 157, 1, 0, 0, .null, []) := rfl
theorem iGraphDeltasModel_feed_0 : ai_find (ai_tab mGraphDeltasModel_feed) 0 = some (.iload_n 1, 1, 1, 0, 0, .null, []) := rfl
theorem iGraphDeltasModel_feed_1 : ai_find (ai_tab mGraphDeltasModel_feed) 1 = some (.ifCond .lt 20, 4, 21, 0, 0, .null, []) := rfl
theorem iGraphDeltasModel_feed_4 : ai_find (ai_tab mGraphDeltasModel_feed) 4 = some (.iload_n 1, 5, 1, 0, 0, .null, []) := rfl
theorem iGraphDeltasModel_feed_5 : ai_find (ai_tab mGraphDeltasModel_feed) 5 = some (.sipush 255, 8, 0, 0, 0, .int (nI 255), []) := rfl
theorem iGraphDeltasModel_feed_8 : ai_find (ai_tab mGraphDeltasModel_feed) 8 = some (.if_icmp .gt 13, 11, 21, 0, 0, .null, []) := rfl
theorem iGraphDeltasModel_feed_11 : ai_find (ai_tab mGraphDeltasModel_feed) 11 = some (.aload_n 0, 12, 0, 0, 0, .null, []) := rfl
theorem iGraphDeltasModel_feed_12 : ai_find (ai_tab mGraphDeltasModel_feed) 12 = some (.getfield 210, 15, 7, 18, 0, .null, []) := rfl
theorem iGraphDeltasModel_feed_15 : ai_find (ai_tab mGraphDeltasModel_feed) 15 = some (.sipush 1200, 18, 0, 0, 0, .int (nI 1200), []) := rfl
theorem iGraphDeltasModel_feed_18 : ai_find (ai_tab mGraphDeltasModel_feed) 18 = some (.if_icmp .ne 5, 21, 23, 0, 0, .null, []) := rfl
theorem iGraphDeltasModel_feed_21 : ai_find (ai_tab mGraphDeltasModel_feed) 21 = some (.iconst 0, 22, 0, 0, 0, .int (nI 0), []) := rfl
theorem iGraphDeltasModel_feed_22 : ai_find (ai_tab mGraphDeltasModel_feed) 22 = some (.ireturn, 23, 1, 0, 0, .null, []) := rfl
theorem iGraphDeltasModel_feed_23 : ai_find (ai_tab mGraphDeltasModel_feed) 23 = some (.aload_n 0, 24, 0, 0, 0, .null, []) := rfl
theorem iGraphDeltasModel_feed_24 : ai_find (ai_tab mGraphDeltasModel_feed) 24 = some (.getfield 61, 27, 7, 19, 0, .null, []) := rfl
theorem iGraphDeltasModel_feed_27 : ai_find (ai_tab mGraphDeltasModel_feed) 27 = some (.aload_n 0, 28, 0, 0, 0, .null, []) := rfl
theorem iGraphDeltasModel_feed_28 : ai_find (ai_tab mGraphDeltasModel_feed) 28 = some (.getfield 210, 31, 7, 18, 0, .null, []) := rfl
theorem iGraphDeltasModel_feed_31 : ai_find (ai_tab mGraphDeltasModel_feed) 31 = some (.iload_n 1, 32, 1, 0, 0, .null, []) := rfl
theorem iGraphDeltasModel_feed_32 : ai_find (ai_tab mGraphDeltasModel_feed) 32 = some (.iastore, 33, 0, 0, 0, .null, []) := rfl
theorem iGraphDeltasModel_feed_33 : ai_find (ai_tab mGraphDeltasModel_feed) 33 = some (.aload_n 0, 34, 0, 0, 0, .null, []) := rfl
theorem iGraphDeltasModel_feed_34 : ai_find (ai_tab mGraphDeltasModel_feed) 34 = some (.dup, 35, 0, 0, 0, .null, []) := rfl
theorem iGraphDeltasModel_feed_35 : ai_find (ai_tab mGraphDeltasModel_feed) 35 = some (.getfield 210, 38, 7, 18, 0, .null, []) := rfl
theorem iGraphDeltasModel_feed_38 : ai_find (ai_tab mGraphDeltasModel_feed) 38 = some (.iconst 1, 39, 0, 0, 0, .int (nI 1), []) := rfl
theorem iGraphDeltasModel_feed_39 : ai_find (ai_tab mGraphDeltasModel_feed) 39 = some (.iadd, 40, 0, 0, 0, .null, []) := rfl
theorem iGraphDeltasModel_feed_40 : ai_find (ai_tab mGraphDeltasModel_feed) 40 = some (.putfield 210, 43, 7, 18, 0, .null, []) := rfl
theorem iGraphDeltasModel_feed_43 : ai_find (ai_tab mGraphDeltasModel_feed) 43 = some (.iconst 1, 44, 0, 0, 0, .int (nI 1), []) := rfl
theorem iGraphDeltasModel_feed_44 : ai_find (ai_tab mGraphDeltasModel_feed) 44 = some (.ireturn, 45, 1, 0, 0, .null, []) := rfl
theorem iGraphDeltasModel_findConflicts_0 : ai_find (ai_tab mGraphDeltasModel_findConflicts) 0 = some (.aload_n 0, 1, 0, 0, 0, .null, []) := rfl
theorem iGraphDeltasModel_findConflicts_1 : ai_find (ai_tab mGraphDeltasModel_findConflicts) 1 = some (.iconst 0, 2, 0, 0, 0, .int (nI 0), []) := rfl
theorem iGraphDeltasModel_findConflicts_2 : ai_find (ai_tab mGraphDeltasModel_findConflicts) 2 = some (.putfield 148, 5, 7, 16, 0, .null, []) := rfl
theorem iGraphDeltasModel_findConflicts_5 : ai_find (ai_tab mGraphDeltasModel_findConflicts) 5 = some (.iconst 0, 6, 0, 0, 0, .int (nI 0), []) := rfl
theorem iGraphDeltasModel_findConflicts_6 : ai_find (ai_tab mGraphDeltasModel_findConflicts) 6 = some (.istore_n 1, 7, 1, 0, 0, .null, []) := rfl
theorem iGraphDeltasModel_findConflicts_7 : ai_find (ai_tab mGraphDeltasModel_findConflicts) 7 = some (.iload_n 1, 8, 1, 0, 0, .null, []) := rfl
theorem iGraphDeltasModel_findConflicts_8 : ai_find (ai_tab mGraphDeltasModel_findConflicts) 8 = some (.sipush 128, 11, 0, 0, 0, .int (nI 128), []) := rfl
theorem iGraphDeltasModel_findConflicts_11 : ai_find (ai_tab mGraphDeltasModel_findConflicts) 11 = some (.if_icmp .ge 143, 14, 154, 0, 0, .null, []) := rfl
theorem iGraphDeltasModel_findConflicts_14 : ai_find (ai_tab mGraphDeltasModel_findConflicts) 14 = some (.iconst 0, 15, 0, 0, 0, .int (nI 0), []) := rfl
theorem iGraphDeltasModel_findConflicts_15 : ai_find (ai_tab mGraphDeltasModel_findConflicts) 15 = some (.istore_n 2, 16, 2, 0, 0, .null, []) := rfl
theorem iGraphDeltasModel_findConflicts_16 : ai_find (ai_tab mGraphDeltasModel_findConflicts) 16 = some (.sipush 130, 19, 0, 0, 0, .int (nI 130), []) := rfl
theorem iGraphDeltasModel_findConflicts_19 : ai_find (ai_tab mGraphDeltasModel_findConflicts) 19 = some (.istore_n 3, 20, 3, 0, 0, .null, []) := rfl
theorem iGraphDeltasModel_findConflicts_20 : ai_find (ai_tab mGraphDeltasModel_findConflicts) 20 = some (.iload_n 3, 21, 3, 0, 0, .null, []) := rfl
theorem iGraphDeltasModel_findConflicts_21 : ai_find (ai_tab mGraphDeltasModel_findConflicts) 21 = some (.sipush 130, 24, 0, 0, 0, .int (nI 130), []) := rfl
theorem iGraphDeltasModel_findConflicts_24 : ai_find (ai_tab mGraphDeltasModel_findConflicts) 24 = some (.aload_n 0, 25, 0, 0, 0, .null, []) := rfl
theorem iGraphDeltasModel_findConflicts_25 : ai_find (ai_tab mGraphDeltasModel_findConflicts) 25 = some (.getfield 31, 28, 7, 7, 0, .null, []) := rfl
theorem iGraphDeltasModel_findConflicts_28 : ai_find (ai_tab mGraphDeltasModel_findConflicts) 28 = some (.iconst 1, 29, 0, 0, 0, .int (nI 1), []) := rfl
theorem iGraphDeltasModel_findConflicts_29 : ai_find (ai_tab mGraphDeltasModel_findConflicts) 29 = some (.iaload, 30, 0, 0, 0, .null, []) := rfl
theorem iGraphDeltasModel_findConflicts_30 : ai_find (ai_tab mGraphDeltasModel_findConflicts) 30 = some (.iadd, 31, 0, 0, 0, .null, []) := rfl
theorem iGraphDeltasModel_findConflicts_31 : ai_find (ai_tab mGraphDeltasModel_findConflicts) 31 = some (.if_icmp .ge 93, 34, 124, 0, 0, .null, []) := rfl
theorem iGraphDeltasModel_findConflicts_34 : ai_find (ai_tab mGraphDeltasModel_findConflicts) 34 = some (.bipush 8, 36, 0, 0, 0, .int (nI 8), []) := rfl
theorem iGraphDeltasModel_findConflicts_36 : ai_find (ai_tab mGraphDeltasModel_findConflicts) 36 = some (.aload_n 0, 37, 0, 0, 0, .null, []) := rfl
theorem iGraphDeltasModel_findConflicts_37 : ai_find (ai_tab mGraphDeltasModel_findConflicts) 37 = some (.getfield 37, 40, 7, 9, 0, .null, []) := rfl
theorem iGraphDeltasModel_findConflicts_40 : ai_find (ai_tab mGraphDeltasModel_findConflicts) 40 = some (.iload_n 3, 41, 3, 0, 0, .null, []) := rfl
theorem iGraphDeltasModel_findConflicts_41 : ai_find (ai_tab mGraphDeltasModel_findConflicts) 41 = some (.iaload, 42, 0, 0, 0, .null, []) := rfl
theorem iGraphDeltasModel_findConflicts_42 : ai_find (ai_tab mGraphDeltasModel_findConflicts) 42 = some (.imul, 43, 0, 0, 0, .null, []) := rfl
theorem iGraphDeltasModel_findConflicts_43 : ai_find (ai_tab mGraphDeltasModel_findConflicts) 43 = some (.aload_n 0, 44, 0, 0, 0, .null, []) := rfl
theorem iGraphDeltasModel_findConflicts_44 : ai_find (ai_tab mGraphDeltasModel_findConflicts) 44 = some (.getfield 34, 47, 7, 8, 0, .null, []) := rfl
theorem iGraphDeltasModel_findConflicts_47 : ai_find (ai_tab mGraphDeltasModel_findConflicts) 47 = some (.iload_n 3, 48, 3, 0, 0, .null, []) := rfl
theorem iGraphDeltasModel_findConflicts_48 : ai_find (ai_tab mGraphDeltasModel_findConflicts) 48 = some (.iaload, 49, 0, 0, 0, .null, []) := rfl
theorem iGraphDeltasModel_findConflicts_49 : ai_find (ai_tab mGraphDeltasModel_findConflicts) 49 = some (.iconst 2, 50, 0, 0, 0, .int (nI 2), []) := rfl
theorem iGraphDeltasModel_findConflicts_50 : ai_find (ai_tab mGraphDeltasModel_findConflicts) 50 = some (.if_icmp .ne 12, 53, 62, 0, 0, .null, []) := rfl
theorem iGraphDeltasModel_findConflicts_53 : ai_find (ai_tab mGraphDeltasModel_findConflicts) 53 = some (.aload_n 0, 54, 0, 0, 0, .null, []) := rfl
theorem iGraphDeltasModel_findConflicts_54 : ai_find (ai_tab mGraphDeltasModel_findConflicts) 54 = some (.getfield 40, 57, 7, 10, 0, .null, []) := rfl
theorem iGraphDeltasModel_findConflicts_57 : ai_find (ai_tab mGraphDeltasModel_findConflicts) 57 = some (.iload_n 3, 58, 3, 0, 0, .null, []) := rfl
theorem iGraphDeltasModel_findConflicts_58 : ai_find (ai_tab mGraphDeltasModel_findConflicts) 58 = some (.iaload, 59, 0, 0, 0, .null, []) := rfl
theorem iGraphDeltasModel_findConflicts_59 : ai_find (ai_tab mGraphDeltasModel_findConflicts) 59 = some (.goto 4, 62, 63, 0, 0, .null, []) := rfl
theorem iGraphDeltasModel_findConflicts_62 : ai_find (ai_tab mGraphDeltasModel_findConflicts) 62 = some (.iconst 3, 63, 0, 0, 0, .int (nI 3), []) := rfl
theorem iGraphDeltasModel_findConflicts_63 : ai_find (ai_tab mGraphDeltasModel_findConflicts) 63 = some (.iadd, 64, 0, 0, 0, .null, []) := rfl
theorem iGraphDeltasModel_findConflicts_64 : ai_find (ai_tab mGraphDeltasModel_findConflicts) 64 = some (.istore 4, 66, 4, 0, 0, .null, []) := rfl
theorem iGraphDeltasModel_findConflicts_66 : ai_find (ai_tab mGraphDeltasModel_findConflicts) 66 = some (.sipush 260, 69, 0, 0, 0, .int (nI 260), []) := rfl
theorem iGraphDeltasModel_findConflicts_69 : ai_find (ai_tab mGraphDeltasModel_findConflicts) 69 = some (.istore 5, 71, 5, 0, 0, .null, []) := rfl
theorem iGraphDeltasModel_findConflicts_71 : ai_find (ai_tab mGraphDeltasModel_findConflicts) 71 = some (.iload 5, 73, 5, 0, 0, .null, []) := rfl
theorem iGraphDeltasModel_findConflicts_73 : ai_find (ai_tab mGraphDeltasModel_findConflicts) 73 = some (.sipush 260, 76, 0, 0, 0, .int (nI 260), []) := rfl
theorem iGraphDeltasModel_findConflicts_76 : ai_find (ai_tab mGraphDeltasModel_findConflicts) 76 = some (.aload_n 0, 77, 0, 0, 0, .null, []) := rfl
theorem iGraphDeltasModel_findConflicts_77 : ai_find (ai_tab mGraphDeltasModel_findConflicts) 77 = some (.getfield 31, 80, 7, 7, 0, .null, []) := rfl
theorem iGraphDeltasModel_findConflicts_80 : ai_find (ai_tab mGraphDeltasModel_findConflicts) 80 = some (.iconst 2, 81, 0, 0, 0, .int (nI 2), []) := rfl
theorem iGraphDeltasModel_findConflicts_81 : ai_find (ai_tab mGraphDeltasModel_findConflicts) 81 = some (.iaload, 82, 0, 0, 0, .null, []) := rfl
theorem iGraphDeltasModel_findConflicts_82 : ai_find (ai_tab mGraphDeltasModel_findConflicts) 82 = some (.iadd, 83, 0, 0, 0, .null, []) := rfl
theorem iGraphDeltasModel_findConflicts_83 : ai_find (ai_tab mGraphDeltasModel_findConflicts) 83 = some (.if_icmp .ge 35, 86, 118, 0, 0, .null, []) := rfl
theorem iGraphDeltasModel_findConflicts_86 : ai_find (ai_tab mGraphDeltasModel_findConflicts) 86 = some (.iload_n 2, 87, 2, 0, 0, .null, []) := rfl
theorem iGraphDeltasModel_findConflicts_87 : ai_find (ai_tab mGraphDeltasModel_findConflicts) 87 = some (.ifCond .ne 19, 90, 106, 0, 0, .null, []) := rfl
theorem iGraphDeltasModel_findConflicts_90 : ai_find (ai_tab mGraphDeltasModel_findConflicts) 90 = some (.iload 4, 92, 4, 0, 0, .null, []) := rfl
theorem iGraphDeltasModel_findConflicts_92 : ai_find (ai_tab mGraphDeltasModel_findConflicts) 92 = some (.iload_n 1, 93, 1, 0, 0, .null, []) := rfl
theorem iGraphDeltasModel_findConflicts_93 : ai_find (ai_tab mGraphDeltasModel_findConflicts) 93 = some (.if_icmp .ne 17, 96, 110, 0, 0, .null, []) := rfl
theorem iGraphDeltasModel_findConflicts_96 : ai_find (ai_tab mGraphDeltasModel_findConflicts) 96 = some (.aload_n 0, 97, 0, 0, 0, .null, []) := rfl
theorem iGraphDeltasModel_findConflicts_97 : ai_find (ai_tab mGraphDeltasModel_findConflicts) 97 = some (.iload_n 3, 98, 3, 0, 0, .null, []) := rfl
theorem iGraphDeltasModel_findConflicts_98 : ai_find (ai_tab mGraphDeltasModel_findConflicts) 98 = some (.iload 5, 100, 5, 0, 0, .null, []) := rfl
theorem iGraphDeltasModel_findConflicts_100 : ai_find (ai_tab mGraphDeltasModel_findConflicts) 100 = some (.invokevirtual 151, 103, 125, 3, 1, .ref 7, []) := rfl
theorem iGraphDeltasModel_findConflicts_103 : ai_find (ai_tab mGraphDeltasModel_findConflicts) 103 = some (.ifCond .eq 7, 106, 110, 0, 0, .null, []) := rfl
theorem iGraphDeltasModel_findConflicts_106 : ai_find (ai_tab mGraphDeltasModel_findConflicts) 106 = some (.iconst 1, 107, 0, 0, 0, .int (nI 1), []) := rfl
set_option maxRecDepth 20000 in theorem iGraphDeltasModel_findConflicts_107 : ai_find (ai_tab mGraphDeltasModel_findConflicts) 107 = some (.goto 4, 110, 111, 0, 0, .null, []) := rfl
set_option maxRecDepth 20000 in theorem iGraphDeltasModel_findConflicts_110 : ai_find (ai_tab mGraphDeltasModel_findConflicts) 110 = some (.iconst 0, 111, 0, 0, 0, .int (nI 0), []) := rfl
set_option maxRecDepth 20000 in theorem iGraphDeltasModel_findConflicts_111 : ai_find (ai_tab mGraphDeltasModel_findConflicts) 111 = some (.istore_n 2, 112, 2, 0, 0, .null, []) := rfl
set_option maxRecDepth 20000 in theorem iGraphDeltasModel_findConflicts_112 : ai_find (ai_tab mGraphDeltasModel_findConflicts) 112 = some (.iinc 5 1, 115, 5, 0, 0, .int (nI 1), []) := rfl
set_option maxRecDepth 20000 in theorem iGraphDeltasModel_findConflicts_115 : ai_find (ai_tab mGraphDeltasModel_findConflicts) 115 = some (.goto (-44), 118, 71, 0, 0, .null, []) := rfl
set_option maxRecDepth 20000 in theorem iGraphDeltasModel_findConflicts_118 : ai_find (ai_tab mGraphDeltasModel_findConflicts) 118 = some (.iinc 3 1, 121, 3, 0, 0, .int (nI 1), []) := rfl
set_option maxRecDepth 20000 in theorem iGraphDeltasModel_findConflicts_121 : ai_find (ai_tab mGraphDeltasModel_findConflicts) 121 = some (.goto (-101), 124, 20, 0, 0, .null, []) := rfl
set_option maxRecDepth 20000 in theorem iGraphDeltasModel_findConflicts_124 : ai_find (ai_tab mGraphDeltasModel_findConflicts) 124 = some (.iload_n 2, 125, 2, 0, 0, .null, []) := rfl
set_option maxRecDepth 20000 in theorem iGraphDeltasModel_findConflicts_125 : ai_find (ai_tab mGraphDeltasModel_findConflicts) 125 = some (.ifCond .eq 23, 128, 148, 0, 0, .null, []) := rfl
set_option maxRecDepth 20000 in theorem iGraphDeltasModel_findConflicts_128 : ai_find (ai_tab mGraphDeltasModel_findConflicts) 128 = some (.aload_n 0, 129, 0, 0, 0, .null, []) := rfl
set_option maxRecDepth 20000 in theorem iGraphDeltasModel_findConflicts_129 : ai_find (ai_tab mGraphDeltasModel_findConflicts) 129 = some (.getfield 58, 132, 7, 17, 0, .null, []) := rfl
set_option maxRecDepth 20000 in theorem iGraphDeltasModel_findConflicts_132 : ai_find (ai_tab mGraphDeltasModel_findConflicts) 132 = some (.aload_n 0, 133, 0, 0, 0, .null, []) := rfl
set_option maxRecDepth 20000 in theorem iGraphDeltasModel_findConflicts_133 : ai_find (ai_tab mGraphDeltasModel_findConflicts) 133 = some (.getfield 148, 136, 7, 16, 0, .null, []) := rfl
set_option maxRecDepth 20000 in theorem iGraphDeltasModel_findConflicts_136 : ai_find (ai_tab mGraphDeltasModel_findConflicts) 136 = some (.iload_n 1, 137, 1, 0, 0, .null, []) := rfl
set_option maxRecDepth 20000 in theorem iGraphDeltasModel_findConflicts_137 : ai_find (ai_tab mGraphDeltasModel_findConflicts) 137 = some (.iastore, 138, 0, 0, 0, .null, []) := rfl
set_option maxRecDepth 20000 in theorem iGraphDeltasModel_findConflicts_138 : ai_find (ai_tab mGraphDeltasModel_findConflicts) 138 = some (.aload_n 0, 139, 0, 0, 0, .null, []) := rfl
set_option maxRecDepth 20000 in theorem iGraphDeltasModel_findConflicts_139 : ai_find (ai_tab mGraphDeltasModel_findConflicts) 139 = some (.dup, 140, 0, 0, 0, .null, []) := rfl
set_option maxRecDepth 20000 in theorem iGraphDeltasModel_findConflicts_140 : ai_find (ai_tab mGraphDeltasModel_findConflicts) 140 = some (.getfield 148, 143, 7, 16, 0, .null, []) := rfl
set_option maxRecDepth 20000 in theorem iGraphDeltasModel_findConflicts_143 : ai_find (ai_tab mGraphDeltasModel_findConflicts) 143 = some (.iconst 1, 144, 0, 0, 0, .int (nI 1), []) := rfl
