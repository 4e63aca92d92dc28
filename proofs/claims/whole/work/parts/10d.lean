theorem iGraphDeltasModel_snapshot_13 : ai_find (ai_tab mGraphDeltasModel_snapshot) 13 = some (.dup, 14, 0, 0, 0, .null, []) := rfl
theorem iGraphDeltasModel_snapshot_14 : ai_find (ai_tab mGraphDeltasModel_snapshot) 14 = some (.getfield 88, 17, 7, 2, 0, .null, []) := rfl
theorem iGraphDeltasModel_snapshot_17 : ai_find (ai_tab mGraphDeltasModel_snapshot) 17 = some (.iconst 1, 18, 0, 0, 0, .int (nI 1), []) := rfl
theorem iGraphDeltasModel_snapshot_18 : ai_find (ai_tab mGraphDeltasModel_snapshot) 18 = some (.iadd, 19, 0, 0, 0, .null, []) := rfl
theorem iGraphDeltasModel_snapshot_19 : ai_find (ai_tab mGraphDeltasModel_snapshot) 19 = some (.putfield 88, 22, 7, 2, 0, .null, []) := rfl
theorem iGraphDeltasModel_snapshot_22 : ai_find (ai_tab mGraphDeltasModel_snapshot) 22 = some (.aload_n 0, 23, 0, 0, 0, .null, []) := rfl
theorem iGraphDeltasModel_snapshot_23 : ai_find (ai_tab mGraphDeltasModel_snapshot) 23 = some (.iconst 0, 24, 0, 0, 0, .int (nI 0), []) := rfl
theorem iGraphDeltasModel_snapshot_24 : ai_find (ai_tab mGraphDeltasModel_snapshot) 24 = some (.aload_n 0, 25, 0, 0, 0, .null, []) := rfl
theorem iGraphDeltasModel_snapshot_25 : ai_find (ai_tab mGraphDeltasModel_snapshot) 25 = some (.getfield 88, 28, 7, 2, 0, .null, []) := rfl
theorem iGraphDeltasModel_snapshot_28 : ai_find (ai_tab mGraphDeltasModel_snapshot) 28 = some (.invokevirtual 91, 31, 128, 3, 1, .ref 7, []) := rfl
theorem iGraphDeltasModel_snapshot_31 : ai_find (ai_tab mGraphDeltasModel_snapshot) 31 = some (.aload_n 0, 32, 0, 0, 0, .null, []) := rfl
theorem iGraphDeltasModel_snapshot_32 : ai_find (ai_tab mGraphDeltasModel_snapshot) 32 = some (.aload_n 0, 33, 0, 0, 0, .null, []) := rfl
theorem iGraphDeltasModel_snapshot_33 : ai_find (ai_tab mGraphDeltasModel_snapshot) 33 = some (.getfield 88, 36, 7, 2, 0, .null, []) := rfl
theorem iGraphDeltasModel_snapshot_36 : ai_find (ai_tab mGraphDeltasModel_snapshot) 36 = some (.invokevirtual 95, 39, 158, 2, 1, .ref 7, []) := rfl
theorem iGraphDeltasModel_snapshot_39 : ai_find (ai_tab mGraphDeltasModel_snapshot) 39 = some (.aload_n 0, 40, 0, 0, 0, .null, []) := rfl
theorem iGraphDeltasModel_snapshot_40 : ai_find (ai_tab mGraphDeltasModel_snapshot) 40 = some (.getfield 88, 43, 7, 2, 0, .null, []) := rfl
theorem iGraphDeltasModel_snapshot_43 : ai_find (ai_tab mGraphDeltasModel_snapshot) 43 = some (.iconst 1, 44, 0, 0, 0, .int (nI 1), []) := rfl
theorem iGraphDeltasModel_snapshot_44 : ai_find (ai_tab mGraphDeltasModel_snapshot) 44 = some (.isub, 45, 0, 0, 0, .null, []) := rfl
theorem iGraphDeltasModel_snapshot_45 : ai_find (ai_tab mGraphDeltasModel_snapshot) 45 = some (.ireturn, 46, 0, 0, 0, .null, []) := rfl
theorem iGraphDeltasModel_splice_0 : ai_find (ai_tab mGraphDeltasModel_splice) 0 = some (.iload 5, 2, 5, 0, 0, .null, []) := rfl
theorem iGraphDeltasModel_splice_2 : ai_find (ai_tab mGraphDeltasModel_splice) 2 = some (.iload 6, 4, 6, 0, 0, .null, []) := rfl
theorem iGraphDeltasModel_splice_4 : ai_find (ai_tab mGraphDeltasModel_splice) 4 = some (.if_icmp .ne 11, 7, 15, 0, 0, .null, []) := rfl
theorem iGraphDeltasModel_splice_7 : ai_find (ai_tab mGraphDeltasModel_splice) 7 = some (.iload 7, 9, 7, 0, 0, .null, []) := rfl
theorem iGraphDeltasModel_splice_9 : ai_find (ai_tab mGraphDeltasModel_splice) 9 = some (.iload 8, 11, 8, 0, 0, .null, []) := rfl
theorem iGraphDeltasModel_splice_11 : ai_find (ai_tab mGraphDeltasModel_splice) 11 = some (.if_icmp .ne 4, 14, 15, 0, 0, .null, []) := rfl
theorem iGraphDeltasModel_splice_14 : ai_find (ai_tab mGraphDeltasModel_splice) 14 = some (.return_, 15, 0, 0, 0, .null, []) := rfl
theorem iGraphDeltasModel_splice_15 : ai_find (ai_tab mGraphDeltasModel_splice) 15 = some (.aload_n 0, 16, 0, 0, 0, .null, []) := rfl
theorem iGraphDeltasModel_splice_16 : ai_find (ai_tab mGraphDeltasModel_splice) 16 = some (.iload_n 1, 17, 1, 0, 0, .null, []) := rfl
theorem iGraphDeltasModel_splice_17 : ai_find (ai_tab mGraphDeltasModel_splice) 17 = some (.iconst 3, 18, 0, 0, 0, .int (nI 3), []) := rfl
theorem iGraphDeltasModel_splice_18 : ai_find (ai_tab mGraphDeltasModel_splice) 18 = some (.iload 4, 20, 4, 0, 0, .null, []) := rfl
theorem iGraphDeltasModel_splice_20 : ai_find (ai_tab mGraphDeltasModel_splice) 20 = some (.iload 5, 22, 5, 0, 0, .null, []) := rfl
theorem iGraphDeltasModel_splice_22 : ai_find (ai_tab mGraphDeltasModel_splice) 22 = some (.iload 6, 24, 6, 0, 0, .null, []) := rfl
theorem iGraphDeltasModel_splice_24 : ai_find (ai_tab mGraphDeltasModel_splice) 24 = some (.iload 5, 26, 5, 0, 0, .null, []) := rfl
theorem iGraphDeltasModel_splice_26 : ai_find (ai_tab mGraphDeltasModel_splice) 26 = some (.isub, 27, 0, 0, 0, .null, []) := rfl
theorem iGraphDeltasModel_splice_27 : ai_find (ai_tab mGraphDeltasModel_splice) 27 = some (.iload 8, 29, 8, 0, 0, .null, []) := rfl
theorem iGraphDeltasModel_splice_29 : ai_find (ai_tab mGraphDeltasModel_splice) 29 = some (.iload 7, 31, 7, 0, 0, .null, []) := rfl
theorem iGraphDeltasModel_splice_31 : ai_find (ai_tab mGraphDeltasModel_splice) 31 = some (.isub, 32, 0, 0, 0, .null, []) := rfl
theorem iGraphDeltasModel_splice_32 : ai_find (ai_tab mGraphDeltasModel_splice) 32 = some (.i2l, 33, 0, 0, 0, .null, []) := rfl
theorem iGraphDeltasModel_splice_33 : ai_find (ai_tab mGraphDeltasModel_splice) 33 = some (.invokevirtual 116, 36, 119, 7, 1, .ref 7, []) := rfl
theorem iGraphDeltasModel_splice_36 : ai_find (ai_tab mGraphDeltasModel_splice) 36 = some (.iload 7, 38, 7, 0, 0, .null, []) := rfl
theorem iGraphDeltasModel_splice_38 : ai_find (ai_tab mGraphDeltasModel_splice) 38 = some (.istore 9, 40, 9, 0, 0, .null, []) := rfl
theorem iGraphDeltasModel_splice_40 : ai_find (ai_tab mGraphDeltasModel_splice) 40 = some (.iload 9, 42, 9, 0, 0, .null, []) := rfl
theorem iGraphDeltasModel_splice_42 : ai_find (ai_tab mGraphDeltasModel_splice) 42 = some (.iload 8, 44, 8, 0, 0, .null, []) := rfl
theorem iGraphDeltasModel_splice_44 : ai_find (ai_tab mGraphDeltasModel_splice) 44 = some (.if_icmp .ge 33, 47, 77, 0, 0, .null, []) := rfl
theorem iGraphDeltasModel_splice_47 : ai_find (ai_tab mGraphDeltasModel_splice) 47 = some (.aload_n 0, 48, 0, 0, 0, .null, []) := rfl
theorem iGraphDeltasModel_splice_48 : ai_find (ai_tab mGraphDeltasModel_splice) 48 = some (.iload_n 1, 49, 1, 0, 0, .null, []) := rfl
theorem iGraphDeltasModel_splice_49 : ai_find (ai_tab mGraphDeltasModel_splice) 49 = some (.aload_n 0, 50, 0, 0, 0, .null, []) := rfl
theorem iGraphDeltasModel_splice_50 : ai_find (ai_tab mGraphDeltasModel_splice) 50 = some (.getfield 24, 53, 7, 5, 0, .null, []) := rfl
theorem iGraphDeltasModel_splice_53 : ai_find (ai_tab mGraphDeltasModel_splice) 53 = some (.bipush 96, 55, 0, 0, 0, .int (nI 96), []) := rfl
theorem iGraphDeltasModel_splice_55 : ai_find (ai_tab mGraphDeltasModel_splice) 55 = some (.iload_n 3, 56, 3, 0, 0, .null, []) := rfl
theorem iGraphDeltasModel_splice_56 : ai_find (ai_tab mGraphDeltasModel_splice) 56 = some (.imul, 57, 0, 0, 0, .null, []) := rfl
theorem iGraphDeltasModel_splice_57 : ai_find (ai_tab mGraphDeltasModel_splice) 57 = some (.bipush 6, 59, 0, 0, 0, .int (nI 6), []) := rfl
theorem iGraphDeltasModel_splice_59 : ai_find (ai_tab mGraphDeltasModel_splice) 59 = some (.iload 4, 61, 4, 0, 0, .null, []) := rfl
theorem iGraphDeltasModel_splice_61 : ai_find (ai_tab mGraphDeltasModel_splice) 61 = some (.imul, 62, 0, 0, 0, .null, []) := rfl
theorem iGraphDeltasModel_splice_62 : ai_find (ai_tab mGraphDeltasModel_splice) 62 = some (.iadd, 63, 0, 0, 0, .null, []) := rfl
theorem iGraphDeltasModel_splice_63 : ai_find (ai_tab mGraphDeltasModel_splice) 63 = some (.iload 9, 65, 9, 0, 0, .null, []) := rfl
theorem iGraphDeltasModel_splice_65 : ai_find (ai_tab mGraphDeltasModel_splice) 65 = some (.iadd, 66, 0, 0, 0, .null, []) := rfl
theorem iGraphDeltasModel_splice_66 : ai_find (ai_tab mGraphDeltasModel_splice) 66 = some (.laload, 67, 0, 0, 0, .null, []) := rfl
theorem iGraphDeltasModel_splice_67 : ai_find (ai_tab mGraphDeltasModel_splice) 67 = some (.l2i, 68, 0, 0, 0, .null, []) := rfl
theorem iGraphDeltasModel_splice_68 : ai_find (ai_tab mGraphDeltasModel_splice) 68 = some (.invokevirtual 120, 71, 120, 3, 1, .ref 7, []) := rfl
theorem iGraphDeltasModel_splice_71 : ai_find (ai_tab mGraphDeltasModel_splice) 71 = some (.iinc 9 1, 74, 9, 0, 0, .int (nI 1), []) := rfl
theorem iGraphDeltasModel_splice_74 : ai_find (ai_tab mGraphDeltasModel_splice) 74 = some (.goto (-34), 77, 40, 0, 0, .null, []) := rfl
theorem iGraphDeltasModel_splice_77 : ai_find (ai_tab mGraphDeltasModel_splice) 77 = some (.return_, 78, 0, 0, 0, .null, []) := rfl
theorem iGraphDeltasModel_spliceAt_0 : ai_find (ai_tab mGraphDeltasModel_spliceAt) 0 = some (.iconst (-1), 1, 0, 0, 0, .int (-1), []) := rfl
theorem iGraphDeltasModel_spliceAt_1 : ai_find (ai_tab mGraphDeltasModel_spliceAt) 1 = some (.istore_n 3, 2, 3, 0, 0, .null, []) := rfl
theorem iGraphDeltasModel_spliceAt_2 : ai_find (ai_tab mGraphDeltasModel_spliceAt) 2 = some (.iconst 0, 3, 0, 0, 0, .int (nI 0), []) := rfl
theorem iGraphDeltasModel_spliceAt_3 : ai_find (ai_tab mGraphDeltasModel_spliceAt) 3 = some (.istore 4, 5, 4, 0, 0, .null, []) := rfl
theorem iGraphDeltasModel_spliceAt_5 : ai_find (ai_tab mGraphDeltasModel_spliceAt) 5 = some (.iload 4, 7, 4, 0, 0, .null, []) := rfl
theorem iGraphDeltasModel_spliceAt_7 : ai_find (ai_tab mGraphDeltasModel_spliceAt) 7 = some (.aload_n 0, 8, 0, 0, 0, .null, []) := rfl
theorem iGraphDeltasModel_spliceAt_8 : ai_find (ai_tab mGraphDeltasModel_spliceAt) 8 = some (.getfield 31, 11, 7, 7, 0, .null, []) := rfl
theorem iGraphDeltasModel_spliceAt_11 : ai_find (ai_tab mGraphDeltasModel_spliceAt) 11 = some (.iconst 0, 12, 0, 0, 0, .int (nI 0), []) := rfl
theorem iGraphDeltasModel_spliceAt_12 : ai_find (ai_tab mGraphDeltasModel_spliceAt) 12 = some (.iaload, 13, 0, 0, 0, .null, []) := rfl
theorem iGraphDeltasModel_spliceAt_13 : ai_find (ai_tab mGraphDeltasModel_spliceAt) 13 = some (.if_icmp .ge 49, 16, 62, 0, 0, .null, []) := rfl
theorem iGraphDeltasModel_spliceAt_16 : ai_find (ai_tab mGraphDeltasModel_spliceAt) 16 = some (.aload_n 0, 17, 0, 0, 0, .null, []) := rfl
theorem iGraphDeltasModel_spliceAt_17 : ai_find (ai_tab mGraphDeltasModel_spliceAt) 17 = some (.getfield 34, 20, 7, 8, 0, .null, []) := rfl
theorem iGraphDeltasModel_spliceAt_20 : ai_find (ai_tab mGraphDeltasModel_spliceAt) 20 = some (.iload 4, 22, 4, 0, 0, .null, []) := rfl
theorem iGraphDeltasModel_spliceAt_22 : ai_find (ai_tab mGraphDeltasModel_spliceAt) 22 = some (.iaload, 23, 0, 0, 0, .null, []) := rfl
theorem iGraphDeltasModel_spliceAt_23 : ai_find (ai_tab mGraphDeltasModel_spliceAt) 23 = some (.iconst 3, 24, 0, 0, 0, .int (nI 3), []) := rfl
theorem iGraphDeltasModel_spliceAt_24 : ai_find (ai_tab mGraphDeltasModel_spliceAt) 24 = some (.if_icmp .ne 30, 27, 54, 0, 0, .null, []) := rfl
theorem iGraphDeltasModel_spliceAt_27 : ai_find (ai_tab mGraphDeltasModel_spliceAt) 27 = some (.aload_n 0, 28, 0, 0, 0, .null, []) := rfl
theorem iGraphDeltasModel_spliceAt_28 : ai_find (ai_tab mGraphDeltasModel_spliceAt) 28 = some (.getfield 37, 31, 7, 9, 0, .null, []) := rfl
theorem iGraphDeltasModel_spliceAt_31 : ai_find (ai_tab mGraphDeltasModel_spliceAt) 31 = some (.iload 4, 33, 4, 0, 0, .null, []) := rfl
theorem iGraphDeltasModel_spliceAt_33 : ai_find (ai_tab mGraphDeltasModel_spliceAt) 33 = some (.iaload, 34, 0, 0, 0, .null, []) := rfl
theorem iGraphDeltasModel_spliceAt_34 : ai_find (ai_tab mGraphDeltasModel_spliceAt) 34 = some (.iload_n 1, 35, 1, 0, 0, .null, []) := rfl
theorem iGraphDeltasModel_spliceAt_35 : ai_find (ai_tab mGraphDeltasModel_spliceAt) 35 = some (.if_icmp .ne 19, 38, 54, 0, 0, .null, []) := rfl
theorem iGraphDeltasModel_spliceAt_38 : ai_find (ai_tab mGraphDeltasModel_spliceAt) 38 = some (.aload_n 0, 39, 0, 0, 0, .null, []) := rfl
theorem iGraphDeltasModel_spliceAt_39 : ai_find (ai_tab mGraphDeltasModel_spliceAt) 39 = some (.getfield 40, 42, 7, 10, 0, .null, []) := rfl
theorem iGraphDeltasModel_spliceAt_42 : ai_find (ai_tab mGraphDeltasModel_spliceAt) 42 = some (.iload 4, 44, 4, 0, 0, .null, []) := rfl
theorem iGraphDeltasModel_spliceAt_44 : ai_find (ai_tab mGraphDeltasModel_spliceAt) 44 = some (.iaload, 45, 0, 0, 0, .null, []) := rfl
theorem iGraphDeltasModel_spliceAt_45 : ai_find (ai_tab mGraphDeltasModel_spliceAt) 45 = some (.iload_n 2, 46, 2, 0, 0, .null, []) := rfl
theorem iGraphDeltasModel_spliceAt_46 : ai_find (ai_tab mGraphDeltasModel_spliceAt) 46 = some (.if_icmp .ne 8, 49, 54, 0, 0, .null, []) := rfl
theorem iGraphDeltasModel_spliceAt_49 : ai_find (ai_tab mGraphDeltasModel_spliceAt) 49 = some (.iload 4, 51, 4, 0, 0, .null, []) := rfl
theorem iGraphDeltasModel_spliceAt_51 : ai_find (ai_tab mGraphDeltasModel_spliceAt) 51 = some (.goto 4, 54, 55, 0, 0, .null, []) := rfl
theorem iGraphDeltasModel_spliceAt_54 : ai_find (ai_tab mGraphDeltasModel_spliceAt) 54 = some (.iload_n 3, 55, 3, 0, 0, .null, []) := rfl
theorem iGraphDeltasModel_spliceAt_55 : ai_find (ai_tab mGraphDeltasModel_spliceAt) 55 = some (.istore_n 3, 56, 3, 0, 0, .null, []) := rfl
theorem iGraphDeltasModel_spliceAt_56 : ai_find (ai_tab mGraphDeltasModel_spliceAt) 56 = some (.iinc 4 1, 59, 4, 0, 0, .int (nI 1), []) := rfl
theorem iGraphDeltasModel_spliceAt_59 : ai_find (ai_tab mGraphDeltasModel_spliceAt) 59 = some (.goto (-54), 62, 5, 0, 0, .null, []) := rfl
theorem iGraphDeltasModel_spliceAt_62 : ai_find (ai_tab mGraphDeltasModel_spliceAt) 62 = some (.iload_n 3, 63, 3, 0, 0, .null, []) := rfl
theorem iGraphDeltasModel_spliceAt_63 : ai_find (ai_tab mGraphDeltasModel_spliceAt) 63 = some (.ireturn, 64, 0, 0, 0, .null, []) := rfl
theorem iGraphDeltasModel_splices_0 : ai_find (ai_tab mGraphDeltasModel_splices) 0 = some (.aload_n 0, 1, 0, 0, 0, .null, []) := rfl
theorem iGraphDeltasModel_splices_1 : ai_find (ai_tab mGraphDeltasModel_splices) 1 = some (.iload_n 2, 2, 2, 0, 0, .null, []) := rfl
theorem iGraphDeltasModel_splices_2 : ai_find (ai_tab mGraphDeltasModel_splices) 2 = some (.iload_n 3, 3, 3, 0, 0, .null, []) := rfl
theorem iGraphDeltasModel_splices_3 : ai_find (ai_tab mGraphDeltasModel_splices) 3 = some (.iload 4, 5, 4, 0, 0, .null, []) := rfl
theorem iGraphDeltasModel_splices_5 : ai_find (ai_tab mGraphDeltasModel_splices) 5 = some (.invokevirtual 123, 8, 148, 4, 1, .ref 7, []) := rfl
theorem iGraphDeltasModel_splices_8 : ai_find (ai_tab mGraphDeltasModel_splices) 8 = some (.istore 5, 10, 5, 0, 0, .null, []) := rfl
theorem iGraphDeltasModel_splices_10 : ai_find (ai_tab mGraphDeltasModel_splices) 10 = some (.iconst 0, 11, 0, 0, 0, .int (nI 0), []) := rfl
theorem iGraphDeltasModel_splices_11 : ai_find (ai_tab mGraphDeltasModel_splices) 11 = some (.istore 6, 13, 6, 0, 0, .null, []) := rfl
theorem iGraphDeltasModel_splices_13 : ai_find (ai_tab mGraphDeltasModel_splices) 13 = some (.iconst 0, 14, 0, 0, 0, .int (nI 0), []) := rfl
theorem iGraphDeltasModel_splices_14 : ai_find (ai_tab mGraphDeltasModel_splices) 14 = some (.istore 7, 16, 7, 0, 0, .null, []) := rfl
theorem iGraphDeltasModel_splices_16 : ai_find (ai_tab mGraphDeltasModel_splices) 16 = some (.iconst 0, 17, 0, 0, 0, .int (nI 0), []) := rfl
theorem iGraphDeltasModel_splices_17 : ai_find (ai_tab mGraphDeltasModel_splices) 17 = some (.istore 8, 19, 8, 0, 0, .null, []) := rfl
theorem iGraphDeltasModel_splices_19 : ai_find (ai_tab mGraphDeltasModel_splices) 19 = some (.iload 8, 21, 8, 0, 0, .null, []) := rfl
theorem iGraphDeltasModel_splices_21 : ai_find (ai_tab mGraphDeltasModel_splices) 21 = some (.aload_n 0, 22, 0, 0, 0, .null, []) := rfl
theorem iGraphDeltasModel_splices_22 : ai_find (ai_tab mGraphDeltasModel_splices) 22 = some (.iload_n 2, 23, 2, 0, 0, .null, []) := rfl
theorem iGraphDeltasModel_splices_23 : ai_find (ai_tab mGraphDeltasModel_splices) 23 = some (.iload 4, 25, 4, 0, 0, .null, []) := rfl
theorem iGraphDeltasModel_splices_25 : ai_find (ai_tab mGraphDeltasModel_splices) 25 = some (.invokevirtual 105, 28, 146, 3, 1, .ref 7, []) := rfl
theorem iGraphDeltasModel_splices_28 : ai_find (ai_tab mGraphDeltasModel_splices) 28 = some (.if_icmp .ge 99, 31, 127, 0, 0, .null, []) := rfl
theorem iGraphDeltasModel_splices_31 : ai_find (ai_tab mGraphDeltasModel_splices) 31 = some (.iload 5, 33, 5, 0, 0, .null, []) := rfl
theorem iGraphDeltasModel_splices_33 : ai_find (ai_tab mGraphDeltasModel_splices) 33 = some (.iload 8, 35, 8, 0, 0, .null, []) := rfl
theorem iGraphDeltasModel_splices_35 : ai_find (ai_tab mGraphDeltasModel_splices) 35 = some (.ishr, 36, 0, 0, 0, .null, []) := rfl
theorem iGraphDeltasModel_splices_36 : ai_find (ai_tab mGraphDeltasModel_splices) 36 = some (.iconst 1, 37, 0, 0, 0, .int (nI 1), []) := rfl
theorem iGraphDeltasModel_splices_37 : ai_find (ai_tab mGraphDeltasModel_splices) 37 = some (.iand, 38, 0, 0, 0, .null, []) := rfl
theorem iGraphDeltasModel_splices_38 : ai_find (ai_tab mGraphDeltasModel_splices) 38 = some (.iconst 1, 39, 0, 0, 0, .int (nI 1), []) := rfl
theorem iGraphDeltasModel_splices_39 : ai_find (ai_tab mGraphDeltasModel_splices) 39 = some (.if_icmp .ne 82, 42, 121, 0, 0, .null, []) := rfl
theorem iGraphDeltasModel_splices_42 : ai_find (ai_tab mGraphDeltasModel_splices) 42 = some (.iload 7, 44, 7, 0, 0, .null, []) := rfl
theorem iGraphDeltasModel_splices_44 : ai_find (ai_tab mGraphDeltasModel_splices) 44 = some (.istore 9, 46, 9, 0, 0, .null, []) := rfl
theorem iGraphDeltasModel_splices_46 : ai_find (ai_tab mGraphDeltasModel_splices) 46 = some (.aload_n 0, 47, 0, 0, 0, .null, []) := rfl
theorem iGraphDeltasModel_splices_47 : ai_find (ai_tab mGraphDeltasModel_splices) 47 = some (.getfield 24, 50, 7, 5, 0, .null, []) := rfl
theorem iGraphDeltasModel_splices_50 : ai_find (ai_tab mGraphDeltasModel_splices) 50 = some (.bipush 96, 52, 0, 0, 0, .int (nI 96), []) := rfl
theorem iGraphDeltasModel_splices_52 : ai_find (ai_tab mGraphDeltasModel_splices) 52 = some (.iload_n 3, 53, 3, 0, 0, .null, []) := rfl
theorem iGraphDeltasModel_splices_53 : ai_find (ai_tab mGraphDeltasModel_splices) 53 = some (.imul, 54, 0, 0, 0, .null, []) := rfl
theorem iGraphDeltasModel_splices_54 : ai_find (ai_tab mGraphDeltasModel_splices) 54 = some (.bipush 6, 56, 0, 0, 0, .int (nI 6), []) := rfl
theorem iGraphDeltasModel_splices_56 : ai_find (ai_tab mGraphDeltasModel_splices) 56 = some (.iload 4, 58, 4, 0, 0, .null, []) := rfl
theorem iGraphDeltasModel_splices_58 : ai_find (ai_tab mGraphDeltasModel_splices) 58 = some (.imul, 59, 0, 0, 0, .null, []) := rfl
theorem iGraphDeltasModel_splices_59 : ai_find (ai_tab mGraphDeltasModel_splices) 59 = some (.iadd, 60, 0, 0, 0, .null, []) := rfl
theorem iGraphDeltasModel_splices_60 : ai_find (ai_tab mGraphDeltasModel_splices) 60 = some (.iload 9, 62, 9, 0, 0, .null, []) := rfl
theorem iGraphDeltasModel_splices_62 : ai_find (ai_tab mGraphDeltasModel_splices) 62 = some (.iadd, 63, 0, 0, 0, .null, []) := rfl
theorem iGraphDeltasModel_splices_63 : ai_find (ai_tab mGraphDeltasModel_splices) 63 = some (.laload, 64, 0, 0, 0, .null, []) := rfl
theorem iGraphDeltasModel_splices_64 : ai_find (ai_tab mGraphDeltasModel_splices) 64 = some (.aload_n 0, 65, 0, 0, 0, .null, []) := rfl
theorem iGraphDeltasModel_splices_65 : ai_find (ai_tab mGraphDeltasModel_splices) 65 = some (.getfield 24, 68, 7, 5, 0, .null, []) := rfl
theorem iGraphDeltasModel_splices_68 : ai_find (ai_tab mGraphDeltasModel_splices) 68 = some (.bipush 96, 70, 0, 0, 0, .int (nI 96), []) := rfl
theorem iGraphDeltasModel_splices_70 : ai_find (ai_tab mGraphDeltasModel_splices) 70 = some (.iload_n 2, 71, 2, 0, 0, .null, []) := rfl
theorem iGraphDeltasModel_splices_71 : ai_find (ai_tab mGraphDeltasModel_splices) 71 = some (.imul, 72, 0, 0, 0, .null, []) := rfl
theorem iGraphDeltasModel_splices_72 : ai_find (ai_tab mGraphDeltasModel_splices) 72 = some (.bipush 6, 74, 0, 0, 0, .int (nI 6), []) := rfl
theorem iGraphDeltasModel_splices_74 : ai_find (ai_tab mGraphDeltasModel_splices) 74 = some (.iload 4, 76, 4, 0, 0, .null, []) := rfl
theorem iGraphDeltasModel_splices_76 : ai_find (ai_tab mGraphDeltasModel_splices) 76 = some (.imul, 77, 0, 0, 0, .null, []) := rfl
theorem iGraphDeltasModel_splices_77 : ai_find (ai_tab mGraphDeltasModel_splices) 77 = some (.iadd, 78, 0, 0, 0, .null, []) := rfl
theorem iGraphDeltasModel_splices_78 : ai_find (ai_tab mGraphDeltasModel_splices) 78 = some (.iload 8, 80, 8, 0, 0, .null, []) := rfl
theorem iGraphDeltasModel_splices_80 : ai_find (ai_tab mGraphDeltasModel_splices) 80 = some (.iadd, 81, 0, 0, 0, .null, []) := rfl
theorem iGraphDeltasModel_splices_81 : ai_find (ai_tab mGraphDeltasModel_splices) 81 = some (.laload, 82, 0, 0, 0, .null, []) := rfl
theorem iGraphDeltasModel_splices_82 : ai_find (ai_tab mGraphDeltasModel_splices) 82 = some (.lcmp, 83, 0, 0, 0, .null, []) := rfl
theorem iGraphDeltasModel_splices_83 : ai_find (ai_tab mGraphDeltasModel_splices) 83 = some (.ifCond .eq 9, 86, 92, 0, 0, .null, []) := rfl
theorem iGraphDeltasModel_splices_86 : ai_find (ai_tab mGraphDeltasModel_splices) 86 = some (.iinc 9 1, 89, 9, 0, 0, .int (nI 1), []) := rfl
theorem iGraphDeltasModel_splices_89 : ai_find (ai_tab mGraphDeltasModel_splices) 89 = some (.goto (-43), 92, 46, 0, 0, .null, []) := rfl
theorem iGraphDeltasModel_splices_92 : ai_find (ai_tab mGraphDeltasModel_splices) 92 = some (.aload_n 0, 93, 0, 0, 0, .null, []) := rfl
theorem iGraphDeltasModel_splices_93 : ai_find (ai_tab mGraphDeltasModel_splices) 93 = some (.iload_n 1, 94, 1, 0, 0, .null, []) := rfl
theorem iGraphDeltasModel_splices_94 : ai_find (ai_tab mGraphDeltasModel_splices) 94 = some (.iload_n 2, 95, 2, 0, 0, .null, []) := rfl
theorem iGraphDeltasModel_splices_95 : ai_find (ai_tab mGraphDeltasModel_splices) 95 = some (.iload_n 3, 96, 3, 0, 0, .null, []) := rfl
theorem iGraphDeltasModel_splices_96 : ai_find (ai_tab mGraphDeltasModel_splices) 96 = some (.iload 4, 98, 4, 0, 0, .null, []) := rfl
theorem iGraphDeltasModel_splices_98 : ai_find (ai_tab mGraphDeltasModel_splices) 98 = some (.iload 6, 100, 6, 0, 0, .null, []) := rfl
set_option maxRecDepth 20000 in theorem iGraphDeltasModel_splices_100 : ai_find (ai_tab mGraphDeltasModel_splices) 100 = some (.iload 8, 102, 8, 0, 0, .null, []) := rfl
set_option maxRecDepth 20000 in theorem iGraphDeltasModel_splices_102 : ai_find (ai_tab mGraphDeltasModel_splices) 102 = some (.iload 7, 104, 7, 0, 0, .null, []) := rfl
set_option maxRecDepth 20000 in theorem iGraphDeltasModel_splices_104 : ai_find (ai_tab mGraphDeltasModel_splices) 104 = some (.iload 9, 106, 9, 0, 0, .null, []) := rfl
set_option maxRecDepth 20000 in theorem iGraphDeltasModel_splices_106 : ai_find (ai_tab mGraphDeltasModel_splices) 106 = some (.invokevirtual 127, 109, 171, 9, 1, .ref 7, []) := rfl
set_option maxRecDepth 20000 in theorem iGraphDeltasModel_splices_109 : ai_find (ai_tab mGraphDeltasModel_splices) 109 = some (.iload 8, 111, 8, 0, 0, .null, []) := rfl
set_option maxRecDepth 20000 in theorem iGraphDeltasModel_splices_111 : ai_find (ai_tab mGraphDeltasModel_splices) 111 = some (.iconst 1, 112, 0, 0, 0, .int (nI 1), []) := rfl
set_option maxRecDepth 20000 in theorem iGraphDeltasModel_splices_112 : ai_find (ai_tab mGraphDeltasModel_splices) 112 = some (.iadd, 113, 0, 0, 0, .null, []) := rfl
set_option maxRecDepth 20000 in theorem iGraphDeltasModel_splices_113 : ai_find (ai_tab mGraphDeltasModel_splices) 113 = some (.istore 6, 115, 6, 0, 0, .null, []) := rfl
set_option maxRecDepth 20000 in theorem iGraphDeltasModel_splices_115 : ai_find (ai_tab mGraphDeltasModel_splices) 115 = some (.iload 9, 117, 9, 0, 0, .null, []) := rfl
set_option maxRecDepth 20000 in theorem iGraphDeltasModel_splices_117 : ai_find (ai_tab mGraphDeltasModel_splices) 117 = some (.iconst 1, 118, 0, 0, 0, .int (nI 1), []) := rfl
set_option maxRecDepth 20000 in theorem iGraphDeltasModel_splices_118 : ai_find (ai_tab mGraphDeltasModel_splices) 118 = some (.iadd, 119, 0, 0, 0, .null, []) := rfl
set_option maxRecDepth 20000 in theorem iGraphDeltasModel_splices_119 : ai_find (ai_tab mGraphDeltasModel_splices) 119 = some (.istore 7, 121, 7, 0, 0, .null, []) := rfl
set_option maxRecDepth 20000 in theorem iGraphDeltasModel_splices_121 : ai_find (ai_tab mGraphDeltasModel_splices) 121 = some (.iinc 8 1, 124, 8, 0, 0, .int (nI 1), []) := rfl
set_option maxRecDepth 20000 in theorem iGraphDeltasModel_splices_124 : ai_find (ai_tab mGraphDeltasModel_splices) 124 = some (.goto (-105), 127, 19, 0, 0, .null, []) := rfl
set_option maxRecDepth 20000 in theorem iGraphDeltasModel_splices_127 : ai_find (ai_tab mGraphDeltasModel_splices) 127 = some (.aload_n 0, 128, 0, 0, 0, .null, []) := rfl
set_option maxRecDepth 20000 in theorem iGraphDeltasModel_splices_128 : ai_find (ai_tab mGraphDeltasModel_splices) 128 = some (.iload_n 1, 129, 1, 0, 0, .null, []) := rfl
set_option maxRecDepth 20000 in theorem iGraphDeltasModel_splices_129 : ai_find (ai_tab mGraphDeltasModel_splices) 129 = some (.iload_n 2, 130, 2, 0, 0, .null, []) := rfl
set_option maxRecDepth 20000 in theorem iGraphDeltasModel_splices_130 : ai_find (ai_tab mGraphDeltasModel_splices) 130 = some (.iload_n 3, 131, 3, 0, 0, .null, []) := rfl
set_option maxRecDepth 20000 in theorem iGraphDeltasModel_splices_131 : ai_find (ai_tab mGraphDeltasModel_splices) 131 = some (.iload 4, 133, 4, 0, 0, .null, []) := rfl
set_option maxRecDepth 20000 in theorem iGraphDeltasModel_splices_133 : ai_find (ai_tab mGraphDeltasModel_splices) 133 = some (.iload 6, 135, 6, 0, 0, .null, []) := rfl
set_option maxRecDepth 20000 in theorem iGraphDeltasModel_splices_135 : ai_find (ai_tab mGraphDeltasModel_splices) 135 = some (.aload_n 0, 136, 0, 0, 0, .null, []) := rfl
set_option maxRecDepth 20000 in theorem iGraphDeltasModel_splices_136 : ai_find (ai_tab mGraphDeltasModel_splices) 136 = some (.iload_n 2, 137, 2, 0, 0, .null, []) := rfl
set_option maxRecDepth 20000 in theorem iGraphDeltasModel_splices_137 : ai_find (ai_tab mGraphDeltasModel_splices) 137 = some (.iload 4, 139, 4, 0, 0, .null, []) := rfl
set_option maxRecDepth 20000 in theorem iGraphDeltasModel_splices_139 : ai_find (ai_tab mGraphDeltasModel_splices) 139 = some (.invokevirtual 105, 142, 146, 3, 1, .ref 7, []) := rfl
set_option maxRecDepth 20000 in theorem iGraphDeltasModel_splices_142 : ai_find (ai_tab mGraphDeltasModel_splices) 142 = some (.iload 7, 144, 7, 0, 0, .null, []) := rfl
set_option maxRecDepth 20000 in theorem iGraphDeltasModel_splices_144 : ai_find (ai_tab mGraphDeltasModel_splices) 144 = some (.aload_n 0, 145, 0, 0, 0, .null, []) := rfl
set_option maxRecDepth 20000 in theorem iGraphDeltasModel_splices_145 : ai_find (ai_tab mGraphDeltasModel_splices) 145 = some (.iload_n 3, 146, 3, 0, 0, .null, []) := rfl
set_option maxRecDepth 20000 in theorem iGraphDeltasModel_splices_146 : ai_find (ai_tab mGraphDeltasModel_splices) 146 = some (.iload 4, 148, 4, 0, 0, .null, []) := rfl
set_option maxRecDepth 20000 in theorem iGraphDeltasModel_splices_148 : ai_find (ai_tab mGraphDeltasModel_splices) 148 = some (.invokevirtual 105, 151, 146, 3, 1, .ref 7, []) := rfl
set_option maxRecDepth 20000 in theorem iGraphDeltasModel_splices_151 : ai_find (ai_tab mGraphDeltasModel_splices) 151 = some (.invokevirtual 127, 154, 171, 9, 1, .ref 7, []) := rfl
set_option maxRecDepth 20000 in theorem iGraphDeltasModel_splices_154 : ai_find (ai_tab mGraphDeltasModel_splices) 154 = some (.return_, 155, 0, 0, 0, .null, []) := rfl
theorem iGraphDeltasModel_stands_0 : ai_find (ai_tab mGraphDeltasModel_stands) 0 = some (.iconst 0, 1, 0, 0, 0, .int (nI 0), []) := rfl
theorem iGraphDeltasModel_stands_1 : ai_find (ai_tab mGraphDeltasModel_stands) 1 = some (.istore 5, 3, 5, 0, 0, .null, []) := rfl
theorem iGraphDeltasModel_stands_3 : ai_find (ai_tab mGraphDeltasModel_stands) 3 = some (.aload_n 0, 4, 0, 0, 0, .null, []) := rfl
theorem iGraphDeltasModel_stands_4 : ai_find (ai_tab mGraphDeltasModel_stands) 4 = some (.iload_n 2, 5, 2, 0, 0, .null, []) := rfl
theorem iGraphDeltasModel_stands_5 : ai_find (ai_tab mGraphDeltasModel_stands) 5 = some (.iload_n 3, 6, 3, 0, 0, .null, []) := rfl
theorem iGraphDeltasModel_stands_6 : ai_find (ai_tab mGraphDeltasModel_stands) 6 = some (.invokevirtual 105, 9, 146, 3, 1, .ref 7, []) := rfl
theorem iGraphDeltasModel_stands_9 : ai_find (ai_tab mGraphDeltasModel_stands) 9 = some (.istore 6, 11, 6, 0, 0, .null, []) := rfl
theorem iGraphDeltasModel_stands_11 : ai_find (ai_tab mGraphDeltasModel_stands) 11 = some (.iconst 0, 12, 0, 0, 0, .int (nI 0), []) := rfl
theorem iGraphDeltasModel_stands_12 : ai_find (ai_tab mGraphDeltasModel_stands) 12 = some (.istore 7, 14, 7, 0, 0, .null, []) := rfl
theorem iGraphDeltasModel_stands_14 : ai_find (ai_tab mGraphDeltasModel_stands) 14 = some (.iload 7, 16, 7, 0, 0, .null, []) := rfl
theorem iGraphDeltasModel_stands_16 : ai_find (ai_tab mGraphDeltasModel_stands) 16 = some (.bipush 6, 18, 0, 0, 0, .int (nI 6), []) := rfl
theorem iGraphDeltasModel_stands_18 : ai_find (ai_tab mGraphDeltasModel_stands) 18 = some (.if_icmp .ge 83, 21, 101, 0, 0, .null, []) := rfl
theorem iGraphDeltasModel_stands_21 : ai_find (ai_tab mGraphDeltasModel_stands) 21 = some (.iload 4, 23, 4, 0, 0, .null, []) := rfl
theorem iGraphDeltasModel_stands_23 : ai_find (ai_tab mGraphDeltasModel_stands) 23 = some (.iload 7, 25, 7, 0, 0, .null, []) := rfl
theorem iGraphDeltasModel_stands_25 : ai_find (ai_tab mGraphDeltasModel_stands) 25 = some (.ishr, 26, 0, 0, 0, .null, []) := rfl
theorem iGraphDeltasModel_stands_26 : ai_find (ai_tab mGraphDeltasModel_stands) 26 = some (.iconst 1, 27, 0, 0, 0, .int (nI 1), []) := rfl
theorem iGraphDeltasModel_stands_27 : ai_find (ai_tab mGraphDeltasModel_stands) 27 = some (.iand, 28, 0, 0, 0, .null, []) := rfl
theorem iGraphDeltasModel_stands_28 : ai_find (ai_tab mGraphDeltasModel_stands) 28 = some (.iconst 1, 29, 0, 0, 0, .int (nI 1), []) := rfl
theorem iGraphDeltasModel_stands_29 : ai_find (ai_tab mGraphDeltasModel_stands) 29 = some (.if_icmp .ne 66, 32, 95, 0, 0, .null, []) := rfl
theorem iGraphDeltasModel_stands_32 : ai_find (ai_tab mGraphDeltasModel_stands) 32 = some (.iload 5, 34, 5, 0, 0, .null, []) := rfl
theorem iGraphDeltasModel_stands_34 : ai_find (ai_tab mGraphDeltasModel_stands) 34 = some (.iload 6, 36, 6, 0, 0, .null, []) := rfl
theorem iGraphDeltasModel_stands_36 : ai_find (ai_tab mGraphDeltasModel_stands) 36 = some (.if_icmp .ge 47, 39, 83, 0, 0, .null, []) := rfl
theorem iGraphDeltasModel_stands_39 : ai_find (ai_tab mGraphDeltasModel_stands) 39 = some (.aload_n 0, 40, 0, 0, 0, .null, []) := rfl
theorem iGraphDeltasModel_stands_40 : ai_find (ai_tab mGraphDeltasModel_stands) 40 = some (.getfield 24, 43, 7, 5, 0, .null, []) := rfl
theorem iGraphDeltasModel_stands_43 : ai_find (ai_tab mGraphDeltasModel_stands) 43 = some (.bipush 96, 45, 0, 0, 0, .int (nI 96), []) := rfl
theorem iGraphDeltasModel_stands_45 : ai_find (ai_tab mGraphDeltasModel_stands) 45 = some (.iload_n 2, 46, 2, 0, 0, .null, []) := rfl
theorem iGraphDeltasModel_stands_46 : ai_find (ai_tab mGraphDeltasModel_stands) 46 = some (.imul, 47, 0, 0, 0, .null, []) := rfl
theorem iGraphDeltasModel_stands_47 : ai_find (ai_tab mGraphDeltasModel_stands) 47 = some (.bipush 6, 49, 0, 0, 0, .int (nI 6), []) := rfl
theorem iGraphDeltasModel_stands_49 : ai_find (ai_tab mGraphDeltasModel_stands) 49 = some (.iload_n 3, 50, 3, 0, 0, .null, []) := rfl
theorem iGraphDeltasModel_stands_50 : ai_find (ai_tab mGraphDeltasModel_stands) 50 = some (.imul, 51, 0, 0, 0, .null, []) := rfl
theorem iGraphDeltasModel_stands_51 : ai_find (ai_tab mGraphDeltasModel_stands) 51 = some (.iadd, 52, 0, 0, 0, .null, []) := rfl
theorem iGraphDeltasModel_stands_52 : ai_find (ai_tab mGraphDeltasModel_stands) 52 = some (.iload 5, 54, 5, 0, 0, .null, []) := rfl
theorem iGraphDeltasModel_stands_54 : ai_find (ai_tab mGraphDeltasModel_stands) 54 = some (.iadd, 55, 0, 0, 0, .null, []) := rfl
theorem iGraphDeltasModel_stands_55 : ai_find (ai_tab mGraphDeltasModel_stands) 55 = some (.laload, 56, 0, 0, 0, .null, []) := rfl
theorem iGraphDeltasModel_stands_56 : ai_find (ai_tab mGraphDeltasModel_stands) 56 = some (.aload_n 0, 57, 0, 0, 0, .null, []) := rfl
theorem iGraphDeltasModel_stands_57 : ai_find (ai_tab mGraphDeltasModel_stands) 57 = some (.getfield 24, 60, 7, 5, 0, .null, []) := rfl
theorem iGraphDeltasModel_stands_60 : ai_find (ai_tab mGraphDeltasModel_stands) 60 = some (.bipush 96, 62, 0, 0, 0, .int (nI 96), []) := rfl
theorem iGraphDeltasModel_stands_62 : ai_find (ai_tab mGraphDeltasModel_stands) 62 = some (.iload_n 1, 63, 1, 0, 0, .null, []) := rfl
theorem iGraphDeltasModel_stands_63 : ai_find (ai_tab mGraphDeltasModel_stands) 63 = some (.imul, 64, 0, 0, 0, .null, []) := rfl
theorem iGraphDeltasModel_stands_64 : ai_find (ai_tab mGraphDeltasModel_stands) 64 = some (.bipush 6, 66, 0, 0, 0, .int (nI 6), []) := rfl
theorem iGraphDeltasModel_stands_66 : ai_find (ai_tab mGraphDeltasModel_stands) 66 = some (.iload_n 3, 67, 3, 0, 0, .null, []) := rfl
theorem iGraphDeltasModel_stands_67 : ai_find (ai_tab mGraphDeltasModel_stands) 67 = some (.imul, 68, 0, 0, 0, .null, []) := rfl
theorem iGraphDeltasModel_stands_68 : ai_find (ai_tab mGraphDeltasModel_stands) 68 = some (.iadd, 69, 0, 0, 0, .null, []) := rfl
theorem iGraphDeltasModel_stands_69 : ai_find (ai_tab mGraphDeltasModel_stands) 69 = some (.iload 7, 71, 7, 0, 0, .null, []) := rfl
theorem iGraphDeltasModel_stands_71 : ai_find (ai_tab mGraphDeltasModel_stands) 71 = some (.iadd, 72, 0, 0, 0, .null, []) := rfl
theorem iGraphDeltasModel_stands_72 : ai_find (ai_tab mGraphDeltasModel_stands) 72 = some (.laload, 73, 0, 0, 0, .null, []) := rfl
theorem iGraphDeltasModel_stands_73 : ai_find (ai_tab mGraphDeltasModel_stands) 73 = some (.lcmp, 74, 0, 0, 0, .null, []) := rfl
theorem iGraphDeltasModel_stands_74 : ai_find (ai_tab mGraphDeltasModel_stands) 74 = some (.ifCond .eq 9, 77, 83, 0, 0, .null, []) := rfl
theorem iGraphDeltasModel_stands_77 : ai_find (ai_tab mGraphDeltasModel_stands) 77 = some (.iinc 5 1, 80, 5, 0, 0, .int (nI 1), []) := rfl
theorem iGraphDeltasModel_stands_80 : ai_find (ai_tab mGraphDeltasModel_stands) 80 = some (.goto (-48), 83, 32, 0, 0, .null, []) := rfl
theorem iGraphDeltasModel_stands_83 : ai_find (ai_tab mGraphDeltasModel_stands) 83 = some (.iload 5, 85, 5, 0, 0, .null, []) := rfl
theorem iGraphDeltasModel_stands_85 : ai_find (ai_tab mGraphDeltasModel_stands) 85 = some (.iload 6, 87, 6, 0, 0, .null, []) := rfl
theorem iGraphDeltasModel_stands_87 : ai_find (ai_tab mGraphDeltasModel_stands) 87 = some (.if_icmp .ne 5, 90, 92, 0, 0, .null, []) := rfl
theorem iGraphDeltasModel_stands_90 : ai_find (ai_tab mGraphDeltasModel_stands) 90 = some (.iconst 0, 91, 0, 0, 0, .int (nI 0), []) := rfl
theorem iGraphDeltasModel_stands_91 : ai_find (ai_tab mGraphDeltasModel_stands) 91 = some (.ireturn, 92, 1, 0, 0, .null, []) := rfl
theorem iGraphDeltasModel_stands_92 : ai_find (ai_tab mGraphDeltasModel_stands) 92 = some (.iinc 5 1, 95, 5, 0, 0, .int (nI 1), []) := rfl
theorem iGraphDeltasModel_stands_95 : ai_find (ai_tab mGraphDeltasModel_stands) 95 = some (.iinc 7 1, 98, 7, 0, 0, .int (nI 1), []) := rfl
theorem iGraphDeltasModel_stands_98 : ai_find (ai_tab mGraphDeltasModel_stands) 98 = some (.goto (-84), 101, 14, 0, 0, .null, []) := rfl
theorem iGraphDeltasModel_stands_101 : ai_find (ai_tab mGraphDeltasModel_stands) 101 = some (.iconst 1, 102, 0, 0, 0, .int (nI 1), []) := rfl
theorem iGraphDeltasModel_stands_102 : ai_find (ai_tab mGraphDeltasModel_stands) 102 = some (.ireturn, 103, 1, 0, 0, .null, []) := rfl
theorem iGraphDeltasModel_take_0 : ai_find (ai_tab mGraphDeltasModel_take) 0 = some (.aload_n 0, 1, 0, 0, 0, .null, []) := rfl
theorem iGraphDeltasModel_take_1 : ai_find (ai_tab mGraphDeltasModel_take) 1 = some (.iconst 0, 2, 0, 0, 0, .int (nI 0), []) := rfl
theorem iGraphDeltasModel_take_2 : ai_find (ai_tab mGraphDeltasModel_take) 2 = some (.aload_n 0, 3, 0, 0, 0, .null, []) := rfl
theorem iGraphDeltasModel_take_3 : ai_find (ai_tab mGraphDeltasModel_take) 3 = some (.getfield 34, 6, 7, 8, 0, .null, []) := rfl
theorem iGraphDeltasModel_take_6 : ai_find (ai_tab mGraphDeltasModel_take) 6 = some (.iload_n 1, 7, 1, 0, 0, .null, []) := rfl
theorem iGraphDeltasModel_take_7 : ai_find (ai_tab mGraphDeltasModel_take) 7 = some (.iaload, 8, 0, 0, 0, .null, []) := rfl
theorem iGraphDeltasModel_take_8 : ai_find (ai_tab mGraphDeltasModel_take) 8 = some (.aload_n 0, 9, 0, 0, 0, .null, []) := rfl
theorem iGraphDeltasModel_take_9 : ai_find (ai_tab mGraphDeltasModel_take) 9 = some (.getfield 37, 12, 7, 9, 0, .null, []) := rfl
theorem iGraphDeltasModel_take_12 : ai_find (ai_tab mGraphDeltasModel_take) 12 = some (.iload_n 1, 13, 1, 0, 0, .null, []) := rfl
theorem iGraphDeltasModel_take_13 : ai_find (ai_tab mGraphDeltasModel_take) 13 = some (.iaload, 14, 0, 0, 0, .null, []) := rfl
theorem iGraphDeltasModel_take_14 : ai_find (ai_tab mGraphDeltasModel_take) 14 = some (.aload_n 0, 15, 0, 0, 0, .null, []) := rfl
theorem iGraphDeltasModel_take_15 : ai_find (ai_tab mGraphDeltasModel_take) 15 = some (.getfield 40, 18, 7, 10, 0, .null, []) := rfl
theorem iGraphDeltasModel_take_18 : ai_find (ai_tab mGraphDeltasModel_take) 18 = some (.iload_n 1, 19, 1, 0, 0, .null, []) := rfl
theorem iGraphDeltasModel_take_19 : ai_find (ai_tab mGraphDeltasModel_take) 19 = some (.iaload, 20, 0, 0, 0, .null, []) := rfl
theorem iGraphDeltasModel_take_20 : ai_find (ai_tab mGraphDeltasModel_take) 20 = some (.aload_n 0, 21, 0, 0, 0, .null, []) := rfl
theorem iGraphDeltasModel_take_21 : ai_find (ai_tab mGraphDeltasModel_take) 21 = some (.getfield 43, 24, 7, 11, 0, .null, []) := rfl
theorem iGraphDeltasModel_take_24 : ai_find (ai_tab mGraphDeltasModel_take) 24 = some (.iload_n 1, 25, 1, 0, 0, .null, []) := rfl
theorem iGraphDeltasModel_take_25 : ai_find (ai_tab mGraphDeltasModel_take) 25 = some (.iaload, 26, 0, 0, 0, .null, []) := rfl
theorem iGraphDeltasModel_take_26 : ai_find (ai_tab mGraphDeltasModel_take) 26 = some (.aload_n 0, 27, 0, 0, 0, .null, []) := rfl
theorem iGraphDeltasModel_take_27 : ai_find (ai_tab mGraphDeltasModel_take) 27 = some (.getfield 46, 30, 7, 12, 0, .null, []) := rfl
theorem iGraphDeltasModel_take_30 : ai_find (ai_tab mGraphDeltasModel_take) 30 = some (.iload_n 1, 31, 1, 0, 0, .null, []) := rfl
theorem iGraphDeltasModel_take_31 : ai_find (ai_tab mGraphDeltasModel_take) 31 = some (.laload, 32, 0, 0, 0, .null, []) := rfl
theorem iGraphDeltasModel_take_32 : ai_find (ai_tab mGraphDeltasModel_take) 32 = some (.invokevirtual 116, 35, 119, 7, 1, .ref 7, []) := rfl
theorem iGraphDeltasModel_take_35 : ai_find (ai_tab mGraphDeltasModel_take) 35 = some (.iconst 0, 36, 0, 0, 0, .int (nI 0), []) := rfl
theorem iGraphDeltasModel_take_36 : ai_find (ai_tab mGraphDeltasModel_take) 36 = some (.istore_n 2, 37, 2, 0, 0, .null, []) := rfl
theorem iGraphDeltasModel_take_37 : ai_find (ai_tab mGraphDeltasModel_take) 37 = some (.aload_n 0, 38, 0, 0, 0, .null, []) := rfl
theorem iGraphDeltasModel_take_38 : ai_find (ai_tab mGraphDeltasModel_take) 38 = some (.getfield 34, 41, 7, 8, 0, .null, []) := rfl
theorem iGraphDeltasModel_take_41 : ai_find (ai_tab mGraphDeltasModel_take) 41 = some (.iload_n 1, 42, 1, 0, 0, .null, []) := rfl
theorem iGraphDeltasModel_take_42 : ai_find (ai_tab mGraphDeltasModel_take) 42 = some (.iaload, 43, 0, 0, 0, .null, []) := rfl
theorem iGraphDeltasModel_take_43 : ai_find (ai_tab mGraphDeltasModel_take) 43 = some (.iconst 3, 44, 0, 0, 0, .int (nI 3), []) := rfl
theorem iGraphDeltasModel_take_44 : ai_find (ai_tab mGraphDeltasModel_take) 44 = some (.if_icmp .ne 39, 47, 83, 0, 0, .null, []) := rfl
theorem iGraphDeltasModel_take_47 : ai_find (ai_tab mGraphDeltasModel_take) 47 = some (.iload_n 2, 48, 2, 0, 0, .null, []) := rfl
theorem iGraphDeltasModel_take_48 : ai_find (ai_tab mGraphDeltasModel_take) 48 = some (.i2l, 49, 0, 0, 0, .null, []) := rfl
theorem iGraphDeltasModel_take_49 : ai_find (ai_tab mGraphDeltasModel_take) 49 = some (.aload_n 0, 50, 0, 0, 0, .null, []) := rfl
theorem iGraphDeltasModel_take_50 : ai_find (ai_tab mGraphDeltasModel_take) 50 = some (.getfield 46, 53, 7, 12, 0, .null, []) := rfl
theorem iGraphDeltasModel_take_53 : ai_find (ai_tab mGraphDeltasModel_take) 53 = some (.iload_n 1, 54, 1, 0, 0, .null, []) := rfl
theorem iGraphDeltasModel_take_54 : ai_find (ai_tab mGraphDeltasModel_take) 54 = some (.laload, 55, 0, 0, 0, .null, []) := rfl
theorem iGraphDeltasModel_take_55 : ai_find (ai_tab mGraphDeltasModel_take) 55 = some (.lcmp, 56, 0, 0, 0, .null, []) := rfl
theorem iGraphDeltasModel_take_56 : ai_find (ai_tab mGraphDeltasModel_take) 56 = some (.ifCond .ge 27, 59, 83, 0, 0, .null, []) := rfl
theorem iGraphDeltasModel_take_59 : ai_find (ai_tab mGraphDeltasModel_take) 59 = some (.aload_n 0, 60, 0, 0, 0, .null, []) := rfl
theorem iGraphDeltasModel_take_60 : ai_find (ai_tab mGraphDeltasModel_take) 60 = some (.iconst 0, 61, 0, 0, 0, .int (nI 0), []) := rfl
theorem iGraphDeltasModel_take_61 : ai_find (ai_tab mGraphDeltasModel_take) 61 = some (.aload_n 0, 62, 0, 0, 0, .null, []) := rfl
theorem iGraphDeltasModel_take_62 : ai_find (ai_tab mGraphDeltasModel_take) 62 = some (.getfield 55, 65, 7, 15, 0, .null, []) := rfl
theorem iGraphDeltasModel_take_65 : ai_find (ai_tab mGraphDeltasModel_take) 65 = some (.aload_n 0, 66, 0, 0, 0, .null, []) := rfl
theorem iGraphDeltasModel_take_66 : ai_find (ai_tab mGraphDeltasModel_take) 66 = some (.getfield 49, 69, 7, 13, 0, .null, []) := rfl
theorem iGraphDeltasModel_take_69 : ai_find (ai_tab mGraphDeltasModel_take) 69 = some (.iload_n 1, 70, 1, 0, 0, .null, []) := rfl
theorem iGraphDeltasModel_take_70 : ai_find (ai_tab mGraphDeltasModel_take) 70 = some (.iaload, 71, 0, 0, 0, .null, []) := rfl
theorem iGraphDeltasModel_take_71 : ai_find (ai_tab mGraphDeltasModel_take) 71 = some (.iload_n 2, 72, 2, 0, 0, .null, []) := rfl
theorem iGraphDeltasModel_take_72 : ai_find (ai_tab mGraphDeltasModel_take) 72 = some (.iadd, 73, 0, 0, 0, .null, []) := rfl
theorem iGraphDeltasModel_take_73 : ai_find (ai_tab mGraphDeltasModel_take) 73 = some (.iaload, 74, 0, 0, 0, .null, []) := rfl
theorem iGraphDeltasModel_take_74 : ai_find (ai_tab mGraphDeltasModel_take) 74 = some (.invokevirtual 120, 77, 120, 3, 1, .ref 7, []) := rfl
theorem iGraphDeltasModel_take_77 : ai_find (ai_tab mGraphDeltasModel_take) 77 = some (.iinc 2 1, 80, 2, 0, 0, .int (nI 1), []) := rfl
theorem iGraphDeltasModel_take_80 : ai_find (ai_tab mGraphDeltasModel_take) 80 = some (.goto (-43), 83, 37, 0, 0, .null, []) := rfl
theorem iGraphDeltasModel_take_83 : ai_find (ai_tab mGraphDeltasModel_take) 83 = some (.return_, 84, 0, 0, 0, .null, []) := rfl
theorem iGraphDeltasModel_value_0 : ai_find (ai_tab mGraphDeltasModel_value) 0 = some (.aload_n 0, 1, 0, 0, 0, .null, []) := rfl
theorem iGraphDeltasModel_value_1 : ai_find (ai_tab mGraphDeltasModel_value) 1 = some (.iload_n 1, 2, 1, 0, 0, .null, []) := rfl
theorem iGraphDeltasModel_value_2 : ai_find (ai_tab mGraphDeltasModel_value) 2 = some (.invokevirtual 77, 5, 151, 2, 1, .ref 7, []) := rfl
theorem iGraphDeltasModel_value_5 : ai_find (ai_tab mGraphDeltasModel_value) 5 = some (.ifCond .eq 30, 8, 35, 0, 0, .null, []) := rfl
theorem iGraphDeltasModel_value_8 : ai_find (ai_tab mGraphDeltasModel_value) 8 = some (.iload_n 2, 9, 2, 0, 0, .null, []) := rfl
theorem iGraphDeltasModel_value_9 : ai_find (ai_tab mGraphDeltasModel_value) 9 = some (.ifCond .lt 26, 12, 35, 0, 0, .null, []) := rfl
theorem iGraphDeltasModel_value_12 : ai_find (ai_tab mGraphDeltasModel_value) 12 = some (.iload_n 2, 13, 2, 0, 0, .null, []) := rfl
theorem iGraphDeltasModel_value_13 : ai_find (ai_tab mGraphDeltasModel_value) 13 = some (.aload_n 0, 14, 0, 0, 0, .null, []) := rfl
theorem iGraphDeltasModel_value_14 : ai_find (ai_tab mGraphDeltasModel_value) 14 = some (.getfield 13, 17, 7, 1, 0, .null, []) := rfl
theorem iGraphDeltasModel_value_17 : ai_find (ai_tab mGraphDeltasModel_value) 17 = some (.iload_n 1, 18, 1, 0, 0, .null, []) := rfl
theorem iGraphDeltasModel_value_18 : ai_find (ai_tab mGraphDeltasModel_value) 18 = some (.baload, 19, 0, 0, 0, .null, []) := rfl
theorem iGraphDeltasModel_value_19 : ai_find (ai_tab mGraphDeltasModel_value) 19 = some (.ifCond .eq 12, 22, 31, 0, 0, .null, []) := rfl
theorem iGraphDeltasModel_value_22 : ai_find (ai_tab mGraphDeltasModel_value) 22 = some (.aload_n 0, 23, 0, 0, 0, .null, []) := rfl
theorem iGraphDeltasModel_value_23 : ai_find (ai_tab mGraphDeltasModel_value) 23 = some (.getfield 20, 26, 7, 4, 0, .null, []) := rfl
theorem iGraphDeltasModel_value_26 : ai_find (ai_tab mGraphDeltasModel_value) 26 = some (.iload_n 1, 27, 1, 0, 0, .null, []) := rfl
theorem iGraphDeltasModel_value_27 : ai_find (ai_tab mGraphDeltasModel_value) 27 = some (.iaload, 28, 0, 0, 0, .null, []) := rfl
theorem iGraphDeltasModel_value_28 : ai_find (ai_tab mGraphDeltasModel_value) 28 = some (.goto 4, 31, 32, 0, 0, .null, []) := rfl
theorem iGraphDeltasModel_value_31 : ai_find (ai_tab mGraphDeltasModel_value) 31 = some (.iconst 3, 32, 0, 0, 0, .int (nI 3), []) := rfl
theorem iGraphDeltasModel_value_32 : ai_find (ai_tab mGraphDeltasModel_value) 32 = some (.if_icmp .lt 7, 35, 39, 0, 0, .null, []) := rfl
theorem iGraphDeltasModel_value_35 : ai_find (ai_tab mGraphDeltasModel_value) 35 = some (.ldc2_w 86, 38, 0, 0, 0, .long 1099511627776, []) := rfl
theorem iGraphDeltasModel_value_38 : ai_find (ai_tab mGraphDeltasModel_value) 38 = some (.lreturn, 39, 0, 0, 0, .null, []) := rfl
theorem iGraphDeltasModel_value_39 : ai_find (ai_tab mGraphDeltasModel_value) 39 = some (.aload_n 0, 40, 0, 0, 0, .null, []) := rfl
theorem iGraphDeltasModel_value_40 : ai_find (ai_tab mGraphDeltasModel_value) 40 = some (.getfield 24, 43, 7, 5, 0, .null, []) := rfl
theorem iGraphDeltasModel_value_43 : ai_find (ai_tab mGraphDeltasModel_value) 43 = some (.bipush 6, 45, 0, 0, 0, .int (nI 6), []) := rfl
theorem iGraphDeltasModel_value_45 : ai_find (ai_tab mGraphDeltasModel_value) 45 = some (.iload_n 1, 46, 1, 0, 0, .null, []) := rfl
theorem iGraphDeltasModel_value_46 : ai_find (ai_tab mGraphDeltasModel_value) 46 = some (.imul, 47, 0, 0, 0, .null, []) := rfl
theorem iGraphDeltasModel_value_47 : ai_find (ai_tab mGraphDeltasModel_value) 47 = some (.iload_n 2, 48, 2, 0, 0, .null, []) := rfl
theorem iGraphDeltasModel_value_48 : ai_find (ai_tab mGraphDeltasModel_value) 48 = some (.iadd, 49, 0, 0, 0, .null, []) := rfl
theorem iGraphDeltasModel_value_49 : ai_find (ai_tab mGraphDeltasModel_value) 49 = some (.laload, 50, 0, 0, 0, .null, []) := rfl
theorem iGraphDeltasModel_value_50 : ai_find (ai_tab mGraphDeltasModel_value) 50 = some (.lreturn, 51, 0, 0, 0, .null, []) := rfl
theorem iGraphDeltasModel_write_0 : ai_find (ai_tab mGraphDeltasModel_write) 0 = some (.aload_n 0, 1, 0, 0, 0, .null, []) := rfl
theorem iGraphDeltasModel_write_1 : ai_find (ai_tab mGraphDeltasModel_write) 1 = some (.getfield 191, 4, 7, 20, 0, .null, []) := rfl
theorem iGraphDeltasModel_write_4 : ai_find (ai_tab mGraphDeltasModel_write) 4 = some (.sipush 1200, 7, 0, 0, 0, .int (nI 1200), []) := rfl
theorem iGraphDeltasModel_write_7 : ai_find (ai_tab mGraphDeltasModel_write) 7 = some (.if_icmp .ge 13, 10, 20, 0, 0, .null, []) := rfl
theorem iGraphDeltasModel_write_10 : ai_find (ai_tab mGraphDeltasModel_write) 10 = some (.aload_n 0, 11, 0, 0, 0, .null, []) := rfl
theorem iGraphDeltasModel_write_11 : ai_find (ai_tab mGraphDeltasModel_write) 11 = some (.getfield 64, 14, 7, 21, 0, .null, []) := rfl
theorem iGraphDeltasModel_write_14 : ai_find (ai_tab mGraphDeltasModel_write) 14 = some (.aload_n 0, 15, 0, 0, 0, .null, []) := rfl
theorem iGraphDeltasModel_write_15 : ai_find (ai_tab mGraphDeltasModel_write) 15 = some (.getfield 191, 18, 7, 20, 0, .null, []) := rfl
theorem iGraphDeltasModel_write_18 : ai_find (ai_tab mGraphDeltasModel_write) 18 = some (.iload_n 1, 19, 1, 0, 0, .null, []) := rfl
theorem iGraphDeltasModel_write_19 : ai_find (ai_tab mGraphDeltasModel_write) 19 = some (.iastore, 20, 0, 0, 0, .null, []) := rfl
theorem iGraphDeltasModel_write_20 : ai_find (ai_tab mGraphDeltasModel_write) 20 = some (.aload_n 0, 21, 0, 0, 0, .null, []) := rfl
theorem iGraphDeltasModel_write_21 : ai_find (ai_tab mGraphDeltasModel_write) 21 = some (.dup, 22, 0, 0, 0, .null, []) := rfl
theorem iGraphDeltasModel_write_22 : ai_find (ai_tab mGraphDeltasModel_write) 22 = some (.getfield 191, 25, 7, 20, 0, .null, []) := rfl
theorem iGraphDeltasModel_write_25 : ai_find (ai_tab mGraphDeltasModel_write) 25 = some (.iconst 1, 26, 0, 0, 0, .int (nI 1), []) := rfl
theorem iGraphDeltasModel_write_26 : ai_find (ai_tab mGraphDeltasModel_write) 26 = some (.iadd, 27, 0, 0, 0, .null, []) := rfl
theorem iGraphDeltasModel_write_27 : ai_find (ai_tab mGraphDeltasModel_write) 27 = some (.putfield 191, 30, 7, 20, 0, .null, []) := rfl
theorem iGraphDeltasModel_write_30 : ai_find (ai_tab mGraphDeltasModel_write) 30 = some (.return_, 31, 0, 0, 0, .null, []) := rfl
theorem iGraphDeltasModel_writeDelta_0 : ai_find (ai_tab mGraphDeltasModel_writeDelta) 0 = some (.aload_n 0, 1, 0, 0, 0, .null, []) := rfl
theorem iGraphDeltasModel_writeDelta_1 : ai_find (ai_tab mGraphDeltasModel_writeDelta) 1 = some (.iconst 0, 2, 0, 0, 0, .int (nI 0), []) := rfl
theorem iGraphDeltasModel_writeDelta_2 : ai_find (ai_tab mGraphDeltasModel_writeDelta) 2 = some (.putfield 191, 5, 7, 20, 0, .null, []) := rfl
theorem iGraphDeltasModel_writeDelta_5 : ai_find (ai_tab mGraphDeltasModel_writeDelta) 5 = some (.aload_n 0, 6, 0, 0, 0, .null, []) := rfl
theorem iGraphDeltasModel_writeDelta_6 : ai_find (ai_tab mGraphDeltasModel_writeDelta) 6 = some (.bipush 68, 8, 0, 0, 0, .int (nI 68), []) := rfl
theorem iGraphDeltasModel_writeDelta_8 : ai_find (ai_tab mGraphDeltasModel_writeDelta) 8 = some (.invokevirtual 200, 11, 177, 2, 1, .ref 7, []) := rfl
theorem iGraphDeltasModel_writeDelta_11 : ai_find (ai_tab mGraphDeltasModel_writeDelta) 11 = some (.sipush 130, 14, 0, 0, 0, .int (nI 130), []) := rfl
theorem iGraphDeltasModel_writeDelta_14 : ai_find (ai_tab mGraphDeltasModel_writeDelta) 14 = some (.iload_n 1, 15, 1, 0, 0, .null, []) := rfl
theorem iGraphDeltasModel_writeDelta_15 : ai_find (ai_tab mGraphDeltasModel_writeDelta) 15 = some (.imul, 16, 0, 0, 0, .null, []) := rfl
theorem iGraphDeltasModel_writeDelta_16 : ai_find (ai_tab mGraphDeltasModel_writeDelta) 16 = some (.istore_n 2, 17, 2, 0, 0, .null, []) := rfl
theorem iGraphDeltasModel_writeDelta_17 : ai_find (ai_tab mGraphDeltasModel_writeDelta) 17 = some (.iload_n 2, 18, 2, 0, 0, .null, []) := rfl
theorem iGraphDeltasModel_writeDelta_18 : ai_find (ai_tab mGraphDeltasModel_writeDelta) 18 = some (.sipush 130, 21, 0, 0, 0, .int (nI 130), []) := rfl
theorem iGraphDeltasModel_writeDelta_21 : ai_find (ai_tab mGraphDeltasModel_writeDelta) 21 = some (.iload_n 1, 22, 1, 0, 0, .null, []) := rfl
theorem iGraphDeltasModel_writeDelta_22 : ai_find (ai_tab mGraphDeltasModel_writeDelta) 22 = some (.imul, 23, 0, 0, 0, .null, []) := rfl
theorem iGraphDeltasModel_writeDelta_23 : ai_find (ai_tab mGraphDeltasModel_writeDelta) 23 = some (.aload_n 0, 24, 0, 0, 0, .null, []) := rfl
theorem iGraphDeltasModel_writeDelta_24 : ai_find (ai_tab mGraphDeltasModel_writeDelta) 24 = some (.getfield 31, 27, 7, 7, 0, .null, []) := rfl
theorem iGraphDeltasModel_writeDelta_27 : ai_find (ai_tab mGraphDeltasModel_writeDelta) 27 = some (.iload_n 1, 28, 1, 0, 0, .null, []) := rfl
theorem iGraphDeltasModel_writeDelta_28 : ai_find (ai_tab mGraphDeltasModel_writeDelta) 28 = some (.iaload, 29, 0, 0, 0, .null, []) := rfl
theorem iGraphDeltasModel_writeDelta_29 : ai_find (ai_tab mGraphDeltasModel_writeDelta) 29 = some (.iadd, 30, 0, 0, 0, .null, []) := rfl
theorem iGraphDeltasModel_writeDelta_30 : ai_find (ai_tab mGraphDeltasModel_writeDelta) 30 = some (.if_icmp .ge 179, 33, 209, 0, 0, .null, []) := rfl
theorem iGraphDeltasModel_writeDelta_33 : ai_find (ai_tab mGraphDeltasModel_writeDelta) 33 = some (.aload_n 0, 34, 0, 0, 0, .null, []) := rfl
theorem iGraphDeltasModel_writeDelta_34 : ai_find (ai_tab mGraphDeltasModel_writeDelta) 34 = some (.aload_n 0, 35, 0, 0, 0, .null, []) := rfl
theorem iGraphDeltasModel_writeDelta_35 : ai_find (ai_tab mGraphDeltasModel_writeDelta) 35 = some (.getfield 34, 38, 7, 8, 0, .null, []) := rfl
theorem iGraphDeltasModel_writeDelta_38 : ai_find (ai_tab mGraphDeltasModel_writeDelta) 38 = some (.iload_n 2, 39, 2, 0, 0, .null, []) := rfl
theorem iGraphDeltasModel_writeDelta_39 : ai_find (ai_tab mGraphDeltasModel_writeDelta) 39 = some (.iaload, 40, 0, 0, 0, .null, []) := rfl
theorem iGraphDeltasModel_writeDelta_40 : ai_find (ai_tab mGraphDeltasModel_writeDelta) 40 = some (.invokevirtual 200, 43, 177, 2, 1, .ref 7, []) := rfl
theorem iGraphDeltasModel_writeDelta_43 : ai_find (ai_tab mGraphDeltasModel_writeDelta) 43 = some (.aload_n 0, 44, 0, 0, 0, .null, []) := rfl
theorem iGraphDeltasModel_writeDelta_44 : ai_find (ai_tab mGraphDeltasModel_writeDelta) 44 = some (.aload_n 0, 45, 0, 0, 0, .null, []) := rfl
theorem iGraphDeltasModel_writeDelta_45 : ai_find (ai_tab mGraphDeltasModel_writeDelta) 45 = some (.getfield 37, 48, 7, 9, 0, .null, []) := rfl
theorem iGraphDeltasModel_writeDelta_48 : ai_find (ai_tab mGraphDeltasModel_writeDelta) 48 = some (.iload_n 2, 49, 2, 0, 0, .null, []) := rfl
theorem iGraphDeltasModel_writeDelta_49 : ai_find (ai_tab mGraphDeltasModel_writeDelta) 49 = some (.iaload, 50, 0, 0, 0, .null, []) := rfl
theorem iGraphDeltasModel_writeDelta_50 : ai_find (ai_tab mGraphDeltasModel_writeDelta) 50 = some (.invokevirtual 200, 53, 177, 2, 1, .ref 7, []) := rfl
theorem iGraphDeltasModel_writeDelta_53 : ai_find (ai_tab mGraphDeltasModel_writeDelta) 53 = some (.aload_n 0, 54, 0, 0, 0, .null, []) := rfl
theorem iGraphDeltasModel_writeDelta_54 : ai_find (ai_tab mGraphDeltasModel_writeDelta) 54 = some (.aload_n 0, 55, 0, 0, 0, .null, []) := rfl
theorem iGraphDeltasModel_writeDelta_55 : ai_find (ai_tab mGraphDeltasModel_writeDelta) 55 = some (.getfield 40, 58, 7, 10, 0, .null, []) := rfl
theorem iGraphDeltasModel_writeDelta_58 : ai_find (ai_tab mGraphDeltasModel_writeDelta) 58 = some (.iload_n 2, 59, 2, 0, 0, .null, []) := rfl
theorem iGraphDeltasModel_writeDelta_59 : ai_find (ai_tab mGraphDeltasModel_writeDelta) 59 = some (.iaload, 60, 0, 0, 0, .null, []) := rfl
theorem iGraphDeltasModel_writeDelta_60 : ai_find (ai_tab mGraphDeltasModel_writeDelta) 60 = some (.invokevirtual 200, 63, 177, 2, 1, .ref 7, []) := rfl
theorem iGraphDeltasModel_writeDelta_63 : ai_find (ai_tab mGraphDeltasModel_writeDelta) 63 = some (.aload_n 0, 64, 0, 0, 0, .null, []) := rfl
theorem iGraphDeltasModel_writeDelta_64 : ai_find (ai_tab mGraphDeltasModel_writeDelta) 64 = some (.getfield 34, 67, 7, 8, 0, .null, []) := rfl
theorem iGraphDeltasModel_writeDelta_67 : ai_find (ai_tab mGraphDeltasModel_writeDelta) 67 = some (.iload_n 2, 68, 2, 0, 0, .null, []) := rfl
theorem iGraphDeltasModel_writeDelta_68 : ai_find (ai_tab mGraphDeltasModel_writeDelta) 68 = some (.iaload, 69, 0, 0, 0, .null, []) := rfl
theorem iGraphDeltasModel_writeDelta_69 : ai_find (ai_tab mGraphDeltasModel_writeDelta) 69 = some (.iconst 1, 70, 0, 0, 0, .int (nI 1), []) := rfl
theorem iGraphDeltasModel_writeDelta_70 : ai_find (ai_tab mGraphDeltasModel_writeDelta) 70 = some (.if_icmp .eq 13, 73, 83, 0, 0, .null, []) := rfl
theorem iGraphDeltasModel_writeDelta_73 : ai_find (ai_tab mGraphDeltasModel_writeDelta) 73 = some (.aload_n 0, 74, 0, 0, 0, .null, []) := rfl
theorem iGraphDeltasModel_writeDelta_74 : ai_find (ai_tab mGraphDeltasModel_writeDelta) 74 = some (.aload_n 0, 75, 0, 0, 0, .null, []) := rfl
theorem iGraphDeltasModel_writeDelta_75 : ai_find (ai_tab mGraphDeltasModel_writeDelta) 75 = some (.getfield 43, 78, 7, 11, 0, .null, []) := rfl
theorem iGraphDeltasModel_writeDelta_78 : ai_find (ai_tab mGraphDeltasModel_writeDelta) 78 = some (.iload_n 2, 79, 2, 0, 0, .null, []) := rfl
theorem iGraphDeltasModel_writeDelta_79 : ai_find (ai_tab mGraphDeltasModel_writeDelta) 79 = some (.iaload, 80, 0, 0, 0, .null, []) := rfl
theorem iGraphDeltasModel_writeDelta_80 : ai_find (ai_tab mGraphDeltasModel_writeDelta) 80 = some (.invokevirtual 200, 83, 177, 2, 1, .ref 7, []) := rfl
theorem iGraphDeltasModel_writeDelta_83 : ai_find (ai_tab mGraphDeltasModel_writeDelta) 83 = some (.aload_n 0, 84, 0, 0, 0, .null, []) := rfl
theorem iGraphDeltasModel_writeDelta_84 : ai_find (ai_tab mGraphDeltasModel_writeDelta) 84 = some (.getfield 34, 87, 7, 8, 0, .null, []) := rfl
theorem iGraphDeltasModel_writeDelta_87 : ai_find (ai_tab mGraphDeltasModel_writeDelta) 87 = some (.iload_n 2, 88, 2, 0, 0, .null, []) := rfl
theorem iGraphDeltasModel_writeDelta_88 : ai_find (ai_tab mGraphDeltasModel_writeDelta) 88 = some (.iaload, 89, 0, 0, 0, .null, []) := rfl
theorem iGraphDeltasModel_writeDelta_89 : ai_find (ai_tab mGraphDeltasModel_writeDelta) 89 = some (.iconst 2, 90, 0, 0, 0, .int (nI 2), []) := rfl
theorem iGraphDeltasModel_writeDelta_90 : ai_find (ai_tab mGraphDeltasModel_writeDelta) 90 = some (.if_icmp .ne 23, 93, 113, 0, 0, .null, []) := rfl
theorem iGraphDeltasModel_writeDelta_93 : ai_find (ai_tab mGraphDeltasModel_writeDelta) 93 = some (.aload_n 0, 94, 0, 0, 0, .null, []) := rfl
theorem iGraphDeltasModel_writeDelta_94 : ai_find (ai_tab mGraphDeltasModel_writeDelta) 94 = some (.getfield 43, 97, 7, 11, 0, .null, []) := rfl
theorem iGraphDeltasModel_writeDelta_97 : ai_find (ai_tab mGraphDeltasModel_writeDelta) 97 = some (.iload_n 2, 98, 2, 0, 0, .null, []) := rfl
theorem iGraphDeltasModel_writeDelta_98 : ai_find (ai_tab mGraphDeltasModel_writeDelta) 98 = some (.iaload, 99, 0, 0, 0, .null, []) := rfl
theorem iGraphDeltasModel_writeDelta_99 : ai_find (ai_tab mGraphDeltasModel_writeDelta) 99 = some (.iconst 1, 100, 0, 0, 0, .int (nI 1), []) := rfl
set_option maxRecDepth 20000 in theorem iGraphDeltasModel_writeDelta_100 : ai_find (ai_tab mGraphDeltasModel_writeDelta) 100 = some (.if_icmp .ne 13, 103, 113, 0, 0, .null, []) := rfl
set_option maxRecDepth 20000 in theorem iGraphDeltasModel_writeDelta_103 : ai_find (ai_tab mGraphDeltasModel_writeDelta) 103 = some (.aload_n 0, 104, 0, 0, 0, .null, []) := rfl
set_option maxRecDepth 20000 in theorem iGraphDeltasModel_writeDelta_104 : ai_find (ai_tab mGraphDeltasModel_writeDelta) 104 = some (.aload_n 0, 105, 0, 0, 0, .null, []) := rfl
set_option maxRecDepth 20000 in theorem iGraphDeltasModel_writeDelta_105 : ai_find (ai_tab mGraphDeltasModel_writeDelta) 105 = some (.getfield 46, 108, 7, 12, 0, .null, []) := rfl
set_option maxRecDepth 20000 in theorem iGraphDeltasModel_writeDelta_108 : ai_find (ai_tab mGraphDeltasModel_writeDelta) 108 = some (.iload_n 2, 109, 2, 0, 0, .null, []) := rfl
set_option maxRecDepth 20000 in theorem iGraphDeltasModel_writeDelta_109 : ai_find (ai_tab mGraphDeltasModel_writeDelta) 109 = some (.laload, 110, 0, 0, 0, .null, []) := rfl
set_option maxRecDepth 20000 in theorem iGraphDeltasModel_writeDelta_110 : ai_find (ai_tab mGraphDeltasModel_writeDelta) 110 = some (.invokevirtual 203, 113, 179, 2, 1, .ref 7, []) := rfl
set_option maxRecDepth 20000 in theorem iGraphDeltasModel_writeDelta_113 : ai_find (ai_tab mGraphDeltasModel_writeDelta) 113 = some (.aload_n 0, 114, 0, 0, 0, .null, []) := rfl
set_option maxRecDepth 20000 in theorem iGraphDeltasModel_writeDelta_114 : ai_find (ai_tab mGraphDeltasModel_writeDelta) 114 = some (.getfield 34, 117, 7, 8, 0, .null, []) := rfl
set_option maxRecDepth 20000 in theorem iGraphDeltasModel_writeDelta_117 : ai_find (ai_tab mGraphDeltasModel_writeDelta) 117 = some (.iload_n 2, 118, 2, 0, 0, .null, []) := rfl
set_option maxRecDepth 20000 in theorem iGraphDeltasModel_writeDelta_118 : ai_find (ai_tab mGraphDeltasModel_writeDelta) 118 = some (.iaload, 119, 0, 0, 0, .null, []) := rfl
set_option maxRecDepth 20000 in theorem iGraphDeltasModel_writeDelta_119 : ai_find (ai_tab mGraphDeltasModel_writeDelta) 119 = some (.iconst 2, 120, 0, 0, 0, .int (nI 2), []) := rfl
set_option maxRecDepth 20000 in theorem iGraphDeltasModel_writeDelta_120 : ai_find (ai_tab mGraphDeltasModel_writeDelta) 120 = some (.if_icmp .ne 24, 123, 144, 0, 0, .null, []) := rfl
set_option maxRecDepth 20000 in theorem iGraphDeltasModel_writeDelta_123 : ai_find (ai_tab mGraphDeltasModel_writeDelta) 123 = some (.aload_n 0, 124, 0, 0, 0, .null, []) := rfl
set_option maxRecDepth 20000 in theorem iGraphDeltasModel_writeDelta_124 : ai_find (ai_tab mGraphDeltasModel_writeDelta) 124 = some (.getfield 43, 127, 7, 11, 0, .null, []) := rfl
set_option maxRecDepth 20000 in theorem iGraphDeltasModel_writeDelta_127 : ai_find (ai_tab mGraphDeltasModel_writeDelta) 127 = some (.iload_n 2, 128, 2, 0, 0, .null, []) := rfl
set_option maxRecDepth 20000 in theorem iGraphDeltasModel_writeDelta_128 : ai_find (ai_tab mGraphDeltasModel_writeDelta) 128 = some (.iaload, 129, 0, 0, 0, .null, []) := rfl
set_option maxRecDepth 20000 in theorem iGraphDeltasModel_writeDelta_129 : ai_find (ai_tab mGraphDeltasModel_writeDelta) 129 = some (.iconst 2, 130, 0, 0, 0, .int (nI 2), []) := rfl
set_option maxRecDepth 20000 in theorem iGraphDeltasModel_writeDelta_130 : ai_find (ai_tab mGraphDeltasModel_writeDelta) 130 = some (.if_icmp .ne 14, 133, 144, 0, 0, .null, []) := rfl
set_option maxRecDepth 20000 in theorem iGraphDeltasModel_writeDelta_133 : ai_find (ai_tab mGraphDeltasModel_writeDelta) 133 = some (.aload_n 0, 134, 0, 0, 0, .null, []) := rfl
set_option maxRecDepth 20000 in theorem iGraphDeltasModel_writeDelta_134 : ai_find (ai_tab mGraphDeltasModel_writeDelta) 134 = some (.aload_n 0, 135, 0, 0, 0, .null, []) := rfl
set_option maxRecDepth 20000 in theorem iGraphDeltasModel_writeDelta_135 : ai_find (ai_tab mGraphDeltasModel_writeDelta) 135 = some (.getfield 46, 138, 7, 12, 0, .null, []) := rfl
set_option maxRecDepth 20000 in theorem iGraphDeltasModel_writeDelta_138 : ai_find (ai_tab mGraphDeltasModel_writeDelta) 138 = some (.iload_n 2, 139, 2, 0, 0, .null, []) := rfl
set_option maxRecDepth 20000 in theorem iGraphDeltasModel_writeDelta_139 : ai_find (ai_tab mGraphDeltasModel_writeDelta) 139 = some (.laload, 140, 0, 0, 0, .null, []) := rfl
set_option maxRecDepth 20000 in theorem iGraphDeltasModel_writeDelta_140 : ai_find (ai_tab mGraphDeltasModel_writeDelta) 140 = some (.l2i, 141, 0, 0, 0, .null, []) := rfl
set_option maxRecDepth 20000 in theorem iGraphDeltasModel_writeDelta_141 : ai_find (ai_tab mGraphDeltasModel_writeDelta) 141 = some (.invokevirtual 200, 144, 177, 2, 1, .ref 7, []) := rfl
set_option maxRecDepth 20000 in theorem iGraphDeltasModel_writeDelta_144 : ai_find (ai_tab mGraphDeltasModel_writeDelta) 144 = some (.aload_n 0, 145, 0, 0, 0, .null, []) := rfl
set_option maxRecDepth 20000 in theorem iGraphDeltasModel_writeDelta_145 : ai_find (ai_tab mGraphDeltasModel_writeDelta) 145 = some (.getfield 34, 148, 7, 8, 0, .null, []) := rfl
set_option maxRecDepth 20000 in theorem iGraphDeltasModel_writeDelta_148 : ai_find (ai_tab mGraphDeltasModel_writeDelta) 148 = some (.iload_n 2, 149, 2, 0, 0, .null, []) := rfl
set_option maxRecDepth 20000 in theorem iGraphDeltasModel_writeDelta_149 : ai_find (ai_tab mGraphDeltasModel_writeDelta) 149 = some (.iaload, 150, 0, 0, 0, .null, []) := rfl
set_option maxRecDepth 20000 in theorem iGraphDeltasModel_writeDelta_150 : ai_find (ai_tab mGraphDeltasModel_writeDelta) 150 = some (.iconst 3, 151, 0, 0, 0, .int (nI 3), []) := rfl
set_option maxRecDepth 20000 in theorem iGraphDeltasModel_writeDelta_151 : ai_find (ai_tab mGraphDeltasModel_writeDelta) 151 = some (.if_icmp .ne 52, 154, 203, 0, 0, .null, []) := rfl
set_option maxRecDepth 20000 in theorem iGraphDeltasModel_writeDelta_154 : ai_find (ai_tab mGraphDeltasModel_writeDelta) 154 = some (.aload_n 0, 155, 0, 0, 0, .null, []) := rfl
set_option maxRecDepth 20000 in theorem iGraphDeltasModel_writeDelta_155 : ai_find (ai_tab mGraphDeltasModel_writeDelta) 155 = some (.aload_n 0, 156, 0, 0, 0, .null, []) := rfl
set_option maxRecDepth 20000 in theorem iGraphDeltasModel_writeDelta_156 : ai_find (ai_tab mGraphDeltasModel_writeDelta) 156 = some (.getfield 46, 159, 7, 12, 0, .null, []) := rfl
set_option maxRecDepth 20000 in theorem iGraphDeltasModel_writeDelta_159 : ai_find (ai_tab mGraphDeltasModel_writeDelta) 159 = some (.iload_n 2, 160, 2, 0, 0, .null, []) := rfl
set_option maxRecDepth 20000 in theorem iGraphDeltasModel_writeDelta_160 : ai_find (ai_tab mGraphDeltasModel_writeDelta) 160 = some (.laload, 161, 0, 0, 0, .null, []) := rfl
set_option maxRecDepth 20000 in theorem iGraphDeltasModel_writeDelta_161 : ai_find (ai_tab mGraphDeltasModel_writeDelta) 161 = some (.l2i, 162, 0, 0, 0, .null, []) := rfl
set_option maxRecDepth 20000 in theorem iGraphDeltasModel_writeDelta_162 : ai_find (ai_tab mGraphDeltasModel_writeDelta) 162 = some (.invokevirtual 200, 165, 177, 2, 1, .ref 7, []) := rfl
set_option maxRecDepth 20000 in theorem iGraphDeltasModel_writeDelta_165 : ai_find (ai_tab mGraphDeltasModel_writeDelta) 165 = some (.iconst 0, 166, 0, 0, 0, .int (nI 0), []) := rfl
set_option maxRecDepth 20000 in theorem iGraphDeltasModel_writeDelta_166 : ai_find (ai_tab mGraphDeltasModel_writeDelta) 166 = some (.istore_n 3, 167, 3, 0, 0, .null, []) := rfl
set_option maxRecDepth 20000 in theorem iGraphDeltasModel_writeDelta_167 : ai_find (ai_tab mGraphDeltasModel_writeDelta) 167 = some (.iload_n 3, 168, 3, 0, 0, .null, []) := rfl
set_option maxRecDepth 20000 in theorem iGraphDeltasModel_writeDelta_168 : ai_find (ai_tab mGraphDeltasModel_writeDelta) 168 = some (.i2l, 169, 0, 0, 0, .null, []) := rfl
set_option maxRecDepth 20000 in theorem iGraphDeltasModel_writeDelta_169 : ai_find (ai_tab mGraphDeltasModel_writeDelta) 169 = some (.aload_n 0, 170, 0, 0, 0, .null, []) := rfl
set_option maxRecDepth 20000 in theorem iGraphDeltasModel_writeDelta_170 : ai_find (ai_tab mGraphDeltasModel_writeDelta) 170 = some (.getfield 46, 173, 7, 12, 0, .null, []) := rfl
set_option maxRecDepth 20000 in theorem iGraphDeltasModel_writeDelta_173 : ai_find (ai_tab mGraphDeltasModel_writeDelta) 173 = some (.iload_n 2, 174, 2, 0, 0, .null, []) := rfl
set_option maxRecDepth 20000 in theorem iGraphDeltasModel_writeDelta_174 : ai_find (ai_tab mGraphDeltasModel_writeDelta) 174 = some (.laload, 175, 0, 0, 0, .null, []) := rfl
set_option maxRecDepth 20000 in theorem iGraphDeltasModel_writeDelta_175 : ai_find (ai_tab mGraphDeltasModel_writeDelta) 175 = some (.lcmp, 176, 0, 0, 0, .null, []) := rfl
set_option maxRecDepth 20000 in theorem iGraphDeltasModel_writeDelta_176 : ai_find (ai_tab mGraphDeltasModel_writeDelta) 176 = some (.ifCond .ge 27, 179, 203, 0, 0, .null, []) := rfl
set_option maxRecDepth 20000 in theorem iGraphDeltasModel_writeDelta_179 : ai_find (ai_tab mGraphDeltasModel_writeDelta) 179 = some (.aload_n 0, 180, 0, 0, 0, .null, []) := rfl
set_option maxRecDepth 20000 in theorem iGraphDeltasModel_writeDelta_180 : ai_find (ai_tab mGraphDeltasModel_writeDelta) 180 = some (.aload_n 0, 181, 0, 0, 0, .null, []) := rfl
set_option maxRecDepth 20000 in theorem iGraphDeltasModel_writeDelta_181 : ai_find (ai_tab mGraphDeltasModel_writeDelta) 181 = some (.getfield 55, 184, 7, 15, 0, .null, []) := rfl
set_option maxRecDepth 20000 in theorem iGraphDeltasModel_writeDelta_184 : ai_find (ai_tab mGraphDeltasModel_writeDelta) 184 = some (.aload_n 0, 185, 0, 0, 0, .null, []) := rfl
set_option maxRecDepth 20000 in theorem iGraphDeltasModel_writeDelta_185 : ai_find (ai_tab mGraphDeltasModel_writeDelta) 185 = some (.getfield 49, 188, 7, 13, 0, .null, []) := rfl
set_option maxRecDepth 20000 in theorem iGraphDeltasModel_writeDelta_188 : ai_find (ai_tab mGraphDeltasModel_writeDelta) 188 = some (.iload_n 2, 189, 2, 0, 0, .null, []) := rfl
set_option maxRecDepth 20000 in theorem iGraphDeltasModel_writeDelta_189 : ai_find (ai_tab mGraphDeltasModel_writeDelta) 189 = some (.iaload, 190, 0, 0, 0, .null, []) := rfl
set_option maxRecDepth 20000 in theorem iGraphDeltasModel_writeDelta_190 : ai_find (ai_tab mGraphDeltasModel_writeDelta) 190 = some (.iload_n 3, 191, 3, 0, 0, .null, []) := rfl
set_option maxRecDepth 20000 in theorem iGraphDeltasModel_writeDelta_191 : ai_find (ai_tab mGraphDeltasModel_writeDelta) 191 = some (.iadd, 192, 0, 0, 0, .null, []) := rfl
set_option maxRecDepth 20000 in theorem iGraphDeltasModel_writeDelta_192 : ai_find (ai_tab mGraphDeltasModel_writeDelta) 192 = some (.iaload, 193, 0, 0, 0, .null, []) := rfl
set_option maxRecDepth 20000 in theorem iGraphDeltasModel_writeDelta_193 : ai_find (ai_tab mGraphDeltasModel_writeDelta) 193 = some (.i2l, 194, 0, 0, 0, .null, []) := rfl
set_option maxRecDepth 20000 in theorem iGraphDeltasModel_writeDelta_194 : ai_find (ai_tab mGraphDeltasModel_writeDelta) 194 = some (.invokevirtual 203, 197, 179, 2, 1, .ref 7, []) := rfl
set_option maxRecDepth 20000 in theorem iGraphDeltasModel_writeDelta_197 : ai_find (ai_tab mGraphDeltasModel_writeDelta) 197 = some (.iinc 3 1, 200, 3, 0, 0, .int (nI 1), []) := rfl
set_option maxRecDepth 20000 in theorem iGraphDeltasModel_writeDelta_200 : ai_find (ai_tab mGraphDeltasModel_writeDelta) 200 = some (.goto (-33), 203, 167, 0, 0, .null, []) := rfl
set_option maxRecDepth 20000 in theorem iGraphDeltasModel_writeDelta_203 : ai_find (ai_tab mGraphDeltasModel_writeDelta) 203 = some (.iinc 2 1, 206, 2, 0, 0, .int (nI 1), []) := rfl
set_option maxRecDepth 20000 in theorem iGraphDeltasModel_writeDelta_206 : ai_find (ai_tab mGraphDeltasModel_writeDelta) 206 = some (.goto (-189), 209, 17, 0, 0, .null, []) := rfl
set_option maxRecDepth 20000 in theorem iGraphDeltasModel_writeDelta_209 : ai_find (ai_tab mGraphDeltasModel_writeDelta) 209 = some (.aload_n 0, 210, 0, 0, 0, .null, []) := rfl
set_option maxRecDepth 20000 in theorem iGraphDeltasModel_writeDelta_210 : ai_find (ai_tab mGraphDeltasModel_writeDelta) 210 = some (.iconst 0, 211, 0, 0, 0, .int (nI 0), []) := rfl
set_option maxRecDepth 20000 in theorem iGraphDeltasModel_writeDelta_211 : ai_find (ai_tab mGraphDeltasModel_writeDelta) 211 = some (.invokevirtual 200, 214, 177, 2, 1, .ref 7, []) := rfl
set_option maxRecDepth 20000 in theorem iGraphDeltasModel_writeDelta_214 : ai_find (ai_tab mGraphDeltasModel_writeDelta) 214 = some (.iconst 0, 215, 0, 0, 0, .int (nI 0), []) := rfl
set_option maxRecDepth 20000 in theorem iGraphDeltasModel_writeDelta_215 : ai_find (ai_tab mGraphDeltasModel_writeDelta) 215 = some (.istore_n 2, 216, 2, 0, 0, .null, []) := rfl
set_option maxRecDepth 20000 in theorem iGraphDeltasModel_writeDelta_216 : ai_find (ai_tab mGraphDeltasModel_writeDelta) 216 = some (.iconst 0, 217, 0, 0, 0, .int (nI 0), []) := rfl
set_option maxRecDepth 20000 in theorem iGraphDeltasModel_writeDelta_217 : ai_find (ai_tab mGraphDeltasModel_writeDelta) 217 = some (.istore_n 3, 218, 3, 0, 0, .null, []) := rfl
set_option maxRecDepth 20000 in theorem iGraphDeltasModel_writeDelta_218 : ai_find (ai_tab mGraphDeltasModel_writeDelta) 218 = some (.iload_n 3, 219, 3, 0, 0, .null, []) := rfl
set_option maxRecDepth 20000 in theorem iGraphDeltasModel_writeDelta_219 : ai_find (ai_tab mGraphDeltasModel_writeDelta) 219 = some (.aload_n 0, 220, 0, 0, 0, .null, []) := rfl
set_option maxRecDepth 20000 in theorem iGraphDeltasModel_writeDelta_220 : ai_find (ai_tab mGraphDeltasModel_writeDelta) 220 = some (.getfield 191, 223, 7, 20, 0, .null, []) := rfl
set_option maxRecDepth 20000 in theorem iGraphDeltasModel_writeDelta_223 : ai_find (ai_tab mGraphDeltasModel_writeDelta) 223 = some (.if_icmp .ge 29, 226, 252, 0, 0, .null, []) := rfl
set_option maxRecDepth 20000 in theorem iGraphDeltasModel_writeDelta_226 : ai_find (ai_tab mGraphDeltasModel_writeDelta) 226 = some (.iload_n 3, 227, 3, 0, 0, .null, []) := rfl
set_option maxRecDepth 20000 in theorem iGraphDeltasModel_writeDelta_227 : ai_find (ai_tab mGraphDeltasModel_writeDelta) 227 = some (.sipush 1200, 230, 0, 0, 0, .int (nI 1200), []) := rfl
set_option maxRecDepth 20000 in theorem iGraphDeltasModel_writeDelta_230 : ai_find (ai_tab mGraphDeltasModel_writeDelta) 230 = some (.if_icmp .ge 22, 233, 252, 0, 0, .null, []) := rfl
set_option maxRecDepth 20000 in theorem iGraphDeltasModel_writeDelta_233 : ai_find (ai_tab mGraphDeltasModel_writeDelta) 233 = some (.iload_n 2, 234, 2, 0, 0, .null, []) := rfl
set_option maxRecDepth 20000 in theorem iGraphDeltasModel_writeDelta_234 : ai_find (ai_tab mGraphDeltasModel_writeDelta) 234 = some (.aload_n 0, 235, 0, 0, 0, .null, []) := rfl
set_option maxRecDepth 20000 in theorem iGraphDeltasModel_writeDelta_235 : ai_find (ai_tab mGraphDeltasModel_writeDelta) 235 = some (.getfield 64, 238, 7, 21, 0, .null, []) := rfl
set_option maxRecDepth 20000 in theorem iGraphDeltasModel_writeDelta_238 : ai_find (ai_tab mGraphDeltasModel_writeDelta) 238 = some (.iload_n 3, 239, 3, 0, 0, .null, []) := rfl
set_option maxRecDepth 20000 in theorem iGraphDeltasModel_writeDelta_239 : ai_find (ai_tab mGraphDeltasModel_writeDelta) 239 = some (.iaload, 240, 0, 0, 0, .null, []) := rfl
set_option maxRecDepth 20000 in theorem iGraphDeltasModel_writeDelta_240 : ai_find (ai_tab mGraphDeltasModel_writeDelta) 240 = some (.iadd, 241, 0, 0, 0, .null, []) := rfl
set_option maxRecDepth 20000 in theorem iGraphDeltasModel_writeDelta_241 : ai_find (ai_tab mGraphDeltasModel_writeDelta) 241 = some (.sipush 256, 244, 0, 0, 0, .int (nI 256), []) := rfl
set_option maxRecDepth 20000 in theorem iGraphDeltasModel_writeDelta_244 : ai_find (ai_tab mGraphDeltasModel_writeDelta) 244 = some (.irem, 245, 0, 0, 0, .null, []) := rfl
set_option maxRecDepth 20000 in theorem iGraphDeltasModel_writeDelta_245 : ai_find (ai_tab mGraphDeltasModel_writeDelta) 245 = some (.istore_n 2, 246, 2, 0, 0, .null, []) := rfl
set_option maxRecDepth 20000 in theorem iGraphDeltasModel_writeDelta_246 : ai_find (ai_tab mGraphDeltasModel_writeDelta) 246 = some (.iinc 3 1, 249, 3, 0, 0, .int (nI 1), []) := rfl
set_option maxRecDepth 20000 in theorem iGraphDeltasModel_writeDelta_249 : ai_find (ai_tab mGraphDeltasModel_writeDelta) 249 = some (.goto (-31), 252, 218, 0, 0, .null, []) := rfl
set_option maxRecDepth 20000 in theorem iGraphDeltasModel_writeDelta_252 : ai_find (ai_tab mGraphDeltasModel_writeDelta) 252 = some (.aload_n 0, 253, 0, 0, 0, .null, []) := rfl
set_option maxRecDepth 20000 in theorem iGraphDeltasModel_writeDelta_253 : ai_find (ai_tab mGraphDeltasModel_writeDelta) 253 = some (.iload_n 2, 254, 2, 0, 0, .null, []) := rfl
set_option maxRecDepth 20000 in theorem iGraphDeltasModel_writeDelta_254 : ai_find (ai_tab mGraphDeltasModel_writeDelta) 254 = some (.invokevirtual 200, 257, 177, 2, 1, .ref 7, []) := rfl
set_option maxRecDepth 20000 in theorem iGraphDeltasModel_writeDelta_257 : ai_find (ai_tab mGraphDeltasModel_writeDelta) 257 = some (.return_, 258, 0, 0, 0, .null, []) := rfl
theorem iGraphDeltasModel_writeVarint_0 : ai_find (ai_tab mGraphDeltasModel_writeVarint) 0 = some (.lload_n 1, 1, 1, 0, 0, .null, []) := rfl
theorem iGraphDeltasModel_writeVarint_1 : ai_find (ai_tab mGraphDeltasModel_writeVarint) 1 = some (.lconst 0, 2, 0, 0, 0, .long 0, []) := rfl
theorem iGraphDeltasModel_writeVarint_2 : ai_find (ai_tab mGraphDeltasModel_writeVarint) 2 = some (.lcmp, 3, 0, 0, 0, .null, []) := rfl
theorem iGraphDeltasModel_writeVarint_3 : ai_find (ai_tab mGraphDeltasModel_writeVarint) 3 = some (.ifCond .lt 11, 6, 14, 0, 0, .null, []) := rfl
theorem iGraphDeltasModel_writeVarint_6 : ai_find (ai_tab mGraphDeltasModel_writeVarint) 6 = some (.ldc2_w 194, 9, 0, 0, 0, .long 2, []) := rfl
theorem iGraphDeltasModel_writeVarint_9 : ai_find (ai_tab mGraphDeltasModel_writeVarint) 9 = some (.lload_n 1, 10, 1, 0, 0, .null, []) := rfl
theorem iGraphDeltasModel_writeVarint_10 : ai_find (ai_tab mGraphDeltasModel_writeVarint) 10 = some (.lmul, 11, 0, 0, 0, .null, []) := rfl
theorem iGraphDeltasModel_writeVarint_11 : ai_find (ai_tab mGraphDeltasModel_writeVarint) 11 = some (.goto 10, 14, 21, 0, 0, .null, []) := rfl
theorem iGraphDeltasModel_writeVarint_14 : ai_find (ai_tab mGraphDeltasModel_writeVarint) 14 = some (.ldc2_w 196, 17, 0, 0, 0, .long (-2), []) := rfl
theorem iGraphDeltasModel_writeVarint_17 : ai_find (ai_tab mGraphDeltasModel_writeVarint) 17 = some (.lload_n 1, 18, 1, 0, 0, .null, []) := rfl
theorem iGraphDeltasModel_writeVarint_18 : ai_find (ai_tab mGraphDeltasModel_writeVarint) 18 = some (.lmul, 19, 0, 0, 0, .null, []) := rfl
theorem iGraphDeltasModel_writeVarint_19 : ai_find (ai_tab mGraphDeltasModel_writeVarint) 19 = some (.lconst 1, 20, 0, 0, 0, .long 1, []) := rfl
theorem iGraphDeltasModel_writeVarint_20 : ai_find (ai_tab mGraphDeltasModel_writeVarint) 20 = some (.lsub, 21, 0, 0, 0, .null, []) := rfl
theorem iGraphDeltasModel_writeVarint_21 : ai_find (ai_tab mGraphDeltasModel_writeVarint) 21 = some (.lstore_n 3, 22, 3, 0, 0, .null, []) := rfl
theorem iGraphDeltasModel_writeVarint_22 : ai_find (ai_tab mGraphDeltasModel_writeVarint) 22 = some (.lload_n 3, 23, 3, 0, 0, .null, []) := rfl
theorem iGraphDeltasModel_writeVarint_23 : ai_find (ai_tab mGraphDeltasModel_writeVarint) 23 = some (.ldc2_w 198, 26, 0, 0, 0, .long 128, []) := rfl
theorem iGraphDeltasModel_writeVarint_26 : ai_find (ai_tab mGraphDeltasModel_writeVarint) 26 = some (.lcmp, 27, 0, 0, 0, .null, []) := rfl
theorem iGraphDeltasModel_writeVarint_27 : ai_find (ai_tab mGraphDeltasModel_writeVarint) 27 = some (.ifCond .lt 26, 30, 53, 0, 0, .null, []) := rfl
theorem iGraphDeltasModel_writeVarint_30 : ai_find (ai_tab mGraphDeltasModel_writeVarint) 30 = some (.aload_n 0, 31, 0, 0, 0, .null, []) := rfl
theorem iGraphDeltasModel_writeVarint_31 : ai_find (ai_tab mGraphDeltasModel_writeVarint) 31 = some (.lload_n 3, 32, 3, 0, 0, .null, []) := rfl
theorem iGraphDeltasModel_writeVarint_32 : ai_find (ai_tab mGraphDeltasModel_writeVarint) 32 = some (.ldc2_w 198, 35, 0, 0, 0, .long 128, []) := rfl
theorem iGraphDeltasModel_writeVarint_35 : ai_find (ai_tab mGraphDeltasModel_writeVarint) 35 = some (.lrem, 36, 0, 0, 0, .null, []) := rfl
theorem iGraphDeltasModel_writeVarint_36 : ai_find (ai_tab mGraphDeltasModel_writeVarint) 36 = some (.l2i, 37, 0, 0, 0, .null, []) := rfl
theorem iGraphDeltasModel_writeVarint_37 : ai_find (ai_tab mGraphDeltasModel_writeVarint) 37 = some (.sipush 128, 40, 0, 0, 0, .int (nI 128), []) := rfl
theorem iGraphDeltasModel_writeVarint_40 : ai_find (ai_tab mGraphDeltasModel_writeVarint) 40 = some (.iadd, 41, 0, 0, 0, .null, []) := rfl
theorem iGraphDeltasModel_writeVarint_41 : ai_find (ai_tab mGraphDeltasModel_writeVarint) 41 = some (.invokevirtual 200, 44, 177, 2, 1, .ref 7, []) := rfl
theorem iGraphDeltasModel_writeVarint_44 : ai_find (ai_tab mGraphDeltasModel_writeVarint) 44 = some (.lload_n 3, 45, 3, 0, 0, .null, []) := rfl
theorem iGraphDeltasModel_writeVarint_45 : ai_find (ai_tab mGraphDeltasModel_writeVarint) 45 = some (.ldc2_w 198, 48, 0, 0, 0, .long 128, []) := rfl
theorem iGraphDeltasModel_writeVarint_48 : ai_find (ai_tab mGraphDeltasModel_writeVarint) 48 = some (.ldiv, 49, 0, 0, 0, .null, []) := rfl
theorem iGraphDeltasModel_writeVarint_49 : ai_find (ai_tab mGraphDeltasModel_writeVarint) 49 = some (.lstore_n 3, 50, 3, 0, 0, .null, []) := rfl
theorem iGraphDeltasModel_writeVarint_50 : ai_find (ai_tab mGraphDeltasModel_writeVarint) 50 = some (.goto (-28), 53, 22, 0, 0, .null, []) := rfl
theorem iGraphDeltasModel_writeVarint_53 : ai_find (ai_tab mGraphDeltasModel_writeVarint) 53 = some (.aload_n 0, 54, 0, 0, 0, .null, []) := rfl
theorem iGraphDeltasModel_writeVarint_54 : ai_find (ai_tab mGraphDeltasModel_writeVarint) 54 = some (.lload_n 3, 55, 3, 0, 0, .null, []) := rfl
theorem iGraphDeltasModel_writeVarint_55 : ai_find (ai_tab mGraphDeltasModel_writeVarint) 55 = some (.l2i, 56, 0, 0, 0, .null, []) := rfl
theorem iGraphDeltasModel_writeVarint_56 : ai_find (ai_tab mGraphDeltasModel_writeVarint) 56 = some (.invokevirtual 200, 59, 177, 2, 1, .ref 7, []) := rfl
theorem iGraphDeltasModel_writeVarint_59 : ai_find (ai_tab mGraphDeltasModel_writeVarint) 59 = some (.return_, 60, 0, 0, 0, .null, []) := rfl
theorem iArrays_fill_2_0 : ai_find (ai_tab mArrays_fill_2) 0 = some (.iconst 0, 1, 0, 0, 0, .int (nI 0), []) := rfl
theorem iArrays_fill_2_1 : ai_find (ai_tab mArrays_fill_2) 1 = some (.istore_n 2, 2, 2, 0, 0, .null, []) := rfl
theorem iArrays_fill_2_2 : ai_find (ai_tab mArrays_fill_2) 2 = some (.aload_n 0, 3, 0, 0, 0, .null, []) := rfl
theorem iArrays_fill_2_3 : ai_find (ai_tab mArrays_fill_2) 3 = some (.arraylength, 4, 0, 0, 0, .null, []) := rfl
theorem iArrays_fill_2_4 : ai_find (ai_tab mArrays_fill_2) 4 = some (.istore_n 3, 5, 3, 0, 0, .null, []) := rfl
theorem iArrays_fill_2_5 : ai_find (ai_tab mArrays_fill_2) 5 = some (.iload_n 2, 6, 2, 0, 0, .null, []) := rfl
theorem iArrays_fill_2_6 : ai_find (ai_tab mArrays_fill_2) 6 = some (.iload_n 3, 7, 3, 0, 0, .null, []) := rfl
theorem iArrays_fill_2_7 : ai_find (ai_tab mArrays_fill_2) 7 = some (.if_icmp .ge 13, 10, 20, 0, 0, .null, []) := rfl
theorem iArrays_fill_2_10 : ai_find (ai_tab mArrays_fill_2) 10 = some (.aload_n 0, 11, 0, 0, 0, .null, []) := rfl
theorem iArrays_fill_2_11 : ai_find (ai_tab mArrays_fill_2) 11 = some (.iload_n 2, 12, 2, 0, 0, .null, []) := rfl
theorem iArrays_fill_2_12 : ai_find (ai_tab mArrays_fill_2) 12 = some (.iload_n 1, 13, 1, 0, 0, .null, []) := rfl
theorem iArrays_fill_2_13 : ai_find (ai_tab mArrays_fill_2) 13 = some (.iastore, 14, 0, 0, 0, .null, []) := rfl
theorem iArrays_fill_2_14 : ai_find (ai_tab mArrays_fill_2) 14 = some (.iinc 2 1, 17, 2, 0, 0, .int (nI 1), []) := rfl
theorem iArrays_fill_2_17 : ai_find (ai_tab mArrays_fill_2) 17 = some (.goto (-12), 20, 5, 0, 0, .null, []) := rfl
theorem iArrays_fill_2_20 : ai_find (ai_tab mArrays_fill_2) 20 = some (.return_, 21, 0, 0, 0, .null, []) := rfl
theorem iArrays_fill_4_0 : ai_find (ai_tab mArrays_fill_4) 0 = some (.aload_n 0, 1, 0, 0, 0, .null, []) := rfl
theorem iArrays_fill_4_1 : ai_find (ai_tab mArrays_fill_4) 1 = some (.arraylength, 2, 0, 0, 0, .null, []) := rfl
theorem iArrays_fill_4_2 : ai_find (ai_tab mArrays_fill_4) 2 = some (.iload_n 1, 3, 1, 0, 0, .null, []) := rfl
theorem iArrays_fill_4_3 : ai_find (ai_tab mArrays_fill_4) 3 = some (.iload_n 2, 4, 2, 0, 0, .null, []) := rfl
theorem iArrays_fill_4_4 : ai_find (ai_tab mArrays_fill_4) 4 = some (.invokestatic 13, 7, 182, 3, 0, .null, []) := rfl
theorem iArrays_fill_4_7 : ai_find (ai_tab mArrays_fill_4) 7 = some (.iload_n 1, 8, 1, 0, 0, .null, []) := rfl
theorem iArrays_fill_4_8 : ai_find (ai_tab mArrays_fill_4) 8 = some (.istore 4, 10, 4, 0, 0, .null, []) := rfl
theorem iArrays_fill_4_10 : ai_find (ai_tab mArrays_fill_4) 10 = some (.iload 4, 12, 4, 0, 0, .null, []) := rfl
theorem iArrays_fill_4_12 : ai_find (ai_tab mArrays_fill_4) 12 = some (.iload_n 2, 13, 2, 0, 0, .null, []) := rfl
theorem iArrays_fill_4_13 : ai_find (ai_tab mArrays_fill_4) 13 = some (.if_icmp .ge 14, 16, 27, 0, 0, .null, []) := rfl
theorem iArrays_fill_4_16 : ai_find (ai_tab mArrays_fill_4) 16 = some (.aload_n 0, 17, 0, 0, 0, .null, []) := rfl
theorem iArrays_fill_4_17 : ai_find (ai_tab mArrays_fill_4) 17 = some (.iload 4, 19, 4, 0, 0, .null, []) := rfl
theorem iArrays_fill_4_19 : ai_find (ai_tab mArrays_fill_4) 19 = some (.iload_n 3, 20, 3, 0, 0, .null, []) := rfl
theorem iArrays_fill_4_20 : ai_find (ai_tab mArrays_fill_4) 20 = some (.iastore, 21, 0, 0, 0, .null, []) := rfl
theorem iArrays_fill_4_21 : ai_find (ai_tab mArrays_fill_4) 21 = some (.iinc 4 1, 24, 4, 0, 0, .int (nI 1), []) := rfl
theorem iArrays_fill_4_24 : ai_find (ai_tab mArrays_fill_4) 24 = some (.goto (-14), 27, 10, 0, 0, .null, []) := rfl
theorem iArrays_fill_4_27 : ai_find (ai_tab mArrays_fill_4) 27 = some (.return_, 28, 0, 0, 0, .null, []) := rfl
theorem iArrays_rangeCheck_0 : ai_find (ai_tab mArrays_rangeCheck) 0 = some (.iload_n 1, 1, 1, 0, 0, .null, []) := rfl
theorem iArrays_rangeCheck_1 : ai_find (ai_tab mArrays_rangeCheck) 1 = some (.iload_n 2, 2, 2, 0, 0, .null, []) := rfl
theorem iArrays_rangeCheck_2 : ai_find (ai_tab mArrays_rangeCheck) 2 = some (.if_icmp .le 44, 5, 46, 0, 0, .null, []) := rfl
theorem iArrays_rangeCheck_46 : ai_find (ai_tab mArrays_rangeCheck) 46 = some (.iload_n 1, 47, 1, 0, 0, .null, []) := rfl
theorem iArrays_rangeCheck_47 : ai_find (ai_tab mArrays_rangeCheck) 47 = some (.ifCond .ge 12, 50, 59, 0, 0, .null, []) := rfl
theorem iArrays_rangeCheck_59 : ai_find (ai_tab mArrays_rangeCheck) 59 = some (.iload_n 2, 60, 2, 0, 0, .null, []) := rfl
theorem iArrays_rangeCheck_60 : ai_find (ai_tab mArrays_rangeCheck) 60 = some (.iload_n 0, 61, 0, 0, 0, .null, []) := rfl
theorem iArrays_rangeCheck_61 : ai_find (ai_tab mArrays_rangeCheck) 61 = some (.if_icmp .le 12, 64, 73, 0, 0, .null, []) := rfl
theorem iArrays_rangeCheck_73 : ai_find (ai_tab mArrays_rangeCheck) 73 = some (.return_, 74, 0, 0, 0, .null, []) := rfl
theorem iGraphDeltasLaw_law_0 : ai_find (ai_tab mGraphDeltasLaw_law) 0 = some (.new 7, 3, 0, 0, 0, .null, [(0, 3), (0, 0), (0, 3), (0, 3), (0, 0), (0, 3), (0, 3), (0, 3), (0, 3), (0, 3)]) := rfl
theorem iGraphDeltasLaw_law_3 : ai_find (ai_tab mGraphDeltasLaw_law) 3 = some (.dup, 4, 0, 0, 0, .null, []) := rfl
theorem iGraphDeltasLaw_law_4 : ai_find (ai_tab mGraphDeltasLaw_law) 4 = some (.invokespecial 9, 7, 0, 1, 2, .null, []) := rfl
theorem iGraphDeltasLaw_law_7 : ai_find (ai_tab mGraphDeltasLaw_law) 7 = some (.astore_n 1, 8, 1, 0, 0, .null, []) := rfl
theorem iGraphDeltasLaw_law_8 : ai_find (ai_tab mGraphDeltasLaw_law) 8 = some (.new 10, 11, 7, 0, 0, .null, [(0, 0), (0, 3), (0, 0), (0, 3), (0, 3), (0, 3), (0, 3), (0, 3), (0, 3), (0, 3), (0, 3), (0, 3), (0, 3), (0, 3), (0, 3), (0, 3), (0, 0), (0, 3), (0, 0), (0, 3), (0, 0), (0, 3), (0, 0), (0, 1)]) := rfl
theorem iGraphDeltasLaw_law_11 : ai_find (ai_tab mGraphDeltasLaw_law) 11 = some (.dup, 12, 0, 0, 0, .null, []) := rfl
theorem iGraphDeltasLaw_law_12 : ai_find (ai_tab mGraphDeltasLaw_law) 12 = some (.invokespecial 12, 15, 118, 1, 2, .null, []) := rfl
theorem iGraphDeltasLaw_law_15 : ai_find (ai_tab mGraphDeltasLaw_law) 15 = some (.astore_n 2, 16, 2, 0, 0, .null, []) := rfl
theorem iGraphDeltasLaw_law_16 : ai_find (ai_tab mGraphDeltasLaw_law) 16 = some (.iconst 0, 17, 0, 0, 0, .int (nI 0), []) := rfl
theorem iGraphDeltasLaw_law_17 : ai_find (ai_tab mGraphDeltasLaw_law) 17 = some (.istore_n 3, 18, 3, 0, 0, .null, []) := rfl
theorem iGraphDeltasLaw_law_18 : ai_find (ai_tab mGraphDeltasLaw_law) 18 = some (.iload_n 3, 19, 3, 0, 0, .null, []) := rfl
theorem iGraphDeltasLaw_law_19 : ai_find (ai_tab mGraphDeltasLaw_law) 19 = some (.aload_n 0, 20, 0, 0, 0, .null, []) := rfl
theorem iGraphDeltasLaw_law_20 : ai_find (ai_tab mGraphDeltasLaw_law) 20 = some (.arraylength, 21, 0, 0, 0, .null, []) := rfl
theorem iGraphDeltasLaw_law_21 : ai_find (ai_tab mGraphDeltasLaw_law) 21 = some (.iconst 4, 22, 0, 0, 0, .int (nI 4), []) := rfl
theorem iGraphDeltasLaw_law_22 : ai_find (ai_tab mGraphDeltasLaw_law) 22 = some (.isub, 23, 0, 0, 0, .null, []) := rfl
theorem iGraphDeltasLaw_law_23 : ai_find (ai_tab mGraphDeltasLaw_law) 23 = some (.if_icmp .gt 689, 26, 712, 0, 0, .null, []) := rfl
theorem iGraphDeltasLaw_law_26 : ai_find (ai_tab mGraphDeltasLaw_law) 26 = some (.aload_n 0, 27, 0, 0, 0, .null, []) := rfl
theorem iGraphDeltasLaw_law_27 : ai_find (ai_tab mGraphDeltasLaw_law) 27 = some (.iload_n 3, 28, 3, 0, 0, .null, []) := rfl
theorem iGraphDeltasLaw_law_28 : ai_find (ai_tab mGraphDeltasLaw_law) 28 = some (.iaload, 29, 0, 0, 0, .null, []) := rfl
theorem iGraphDeltasLaw_law_29 : ai_find (ai_tab mGraphDeltasLaw_law) 29 = some (.bipush 31, 31, 0, 0, 0, .int (nI 31), []) := rfl
theorem iGraphDeltasLaw_law_31 : ai_find (ai_tab mGraphDeltasLaw_law) 31 = some (.iand, 32, 0, 0, 0, .null, []) := rfl
theorem iGraphDeltasLaw_law_32 : ai_find (ai_tab mGraphDeltasLaw_law) 32 = some (.tableswitch 674 0 19 #[96, 135, 178, 221, 264, 297, 320, 354, 367, 390, 423, 456, 499, 522, 556, 579, 592, 615, 638, 651], 128, 706, 0, 0, .null, [(nI 0, 128), (nI 1, 167), (nI 2, 210), (nI 3, 253), (nI 4, 296), (nI 5, 329), (nI 6, 352), (nI 7, 386), (nI 8, 399), (nI 9, 422), (nI 10, 455), (nI 11, 488), (nI 12, 531), (nI 13, 554), (nI 14, 588), (nI 15, 611), (nI 16, 624), (nI 17, 647), (nI 18, 670), (nI 19, 683)]) := rfl
theorem iGraphDeltasLaw_law_128 : ai_find (ai_tab mGraphDeltasLaw_law) 128 = some (.aload_n 1, 129, 1, 0, 0, .null, []) := rfl
theorem iGraphDeltasLaw_law_129 : ai_find (ai_tab mGraphDeltasLaw_law) 129 = some (.aload_n 0, 130, 0, 0, 0, .null, []) := rfl
theorem iGraphDeltasLaw_law_130 : ai_find (ai_tab mGraphDeltasLaw_law) 130 = some (.iload_n 3, 131, 3, 0, 0, .null, []) := rfl
theorem iGraphDeltasLaw_law_131 : ai_find (ai_tab mGraphDeltasLaw_law) 131 = some (.iconst 1, 132, 0, 0, 0, .int (nI 1), []) := rfl
theorem iGraphDeltasLaw_law_132 : ai_find (ai_tab mGraphDeltasLaw_law) 132 = some (.iadd, 133, 0, 0, 0, .null, []) := rfl
theorem iGraphDeltasLaw_law_133 : ai_find (ai_tab mGraphDeltasLaw_law) 133 = some (.iaload, 134, 0, 0, 0, .null, []) := rfl
theorem iGraphDeltasLaw_law_134 : ai_find (ai_tab mGraphDeltasLaw_law) 134 = some (.ifCond .eq 7, 137, 141, 0, 0, .null, []) := rfl
theorem iGraphDeltasLaw_law_137 : ai_find (ai_tab mGraphDeltasLaw_law) 137 = some (.iconst 1, 138, 0, 0, 0, .int (nI 1), []) := rfl
theorem iGraphDeltasLaw_law_138 : ai_find (ai_tab mGraphDeltasLaw_law) 138 = some (.goto 4, 141, 142, 0, 0, .null, []) := rfl
theorem iGraphDeltasLaw_law_141 : ai_find (ai_tab mGraphDeltasLaw_law) 141 = some (.iconst 0, 142, 0, 0, 0, .int (nI 0), []) := rfl
theorem iGraphDeltasLaw_law_142 : ai_find (ai_tab mGraphDeltasLaw_law) 142 = some (.invokevirtual 13, 145, 14, 2, 1, .ref 0, []) := rfl
theorem iGraphDeltasLaw_law_145 : ai_find (ai_tab mGraphDeltasLaw_law) 145 = some (.aload_n 2, 146, 2, 0, 0, .null, []) := rfl
theorem iGraphDeltasLaw_law_146 : ai_find (ai_tab mGraphDeltasLaw_law) 146 = some (.aload_n 0, 147, 0, 0, 0, .null, []) := rfl
theorem iGraphDeltasLaw_law_147 : ai_find (ai_tab mGraphDeltasLaw_law) 147 = some (.iload_n 3, 148, 3, 0, 0, .null, []) := rfl
theorem iGraphDeltasLaw_law_148 : ai_find (ai_tab mGraphDeltasLaw_law) 148 = some (.iconst 1, 149, 0, 0, 0, .int (nI 1), []) := rfl
theorem iGraphDeltasLaw_law_149 : ai_find (ai_tab mGraphDeltasLaw_law) 149 = some (.iadd, 150, 0, 0, 0, .null, []) := rfl
theorem iGraphDeltasLaw_law_150 : ai_find (ai_tab mGraphDeltasLaw_law) 150 = some (.iaload, 151, 0, 0, 0, .null, []) := rfl
theorem iGraphDeltasLaw_law_151 : ai_find (ai_tab mGraphDeltasLaw_law) 151 = some (.ifCond .eq 7, 154, 158, 0, 0, .null, []) := rfl
theorem iGraphDeltasLaw_law_154 : ai_find (ai_tab mGraphDeltasLaw_law) 154 = some (.iconst 1, 155, 0, 0, 0, .int (nI 1), []) := rfl
theorem iGraphDeltasLaw_law_155 : ai_find (ai_tab mGraphDeltasLaw_law) 155 = some (.goto 4, 158, 159, 0, 0, .null, []) := rfl
theorem iGraphDeltasLaw_law_158 : ai_find (ai_tab mGraphDeltasLaw_law) 158 = some (.iconst 0, 159, 0, 0, 0, .int (nI 0), []) := rfl
theorem iGraphDeltasLaw_law_159 : ai_find (ai_tab mGraphDeltasLaw_law) 159 = some (.invokevirtual 17, 162, 155, 2, 1, .ref 7, []) := rfl
theorem iGraphDeltasLaw_law_162 : ai_find (ai_tab mGraphDeltasLaw_law) 162 = some (.if_icmp .eq 544, 165, 706, 0, 0, .null, []) := rfl
theorem iGraphDeltasLaw_law_165 : ai_find (ai_tab mGraphDeltasLaw_law) 165 = some (.iconst 0, 166, 0, 0, 0, .int (nI 0), []) := rfl
theorem iGraphDeltasLaw_law_166 : ai_find (ai_tab mGraphDeltasLaw_law) 166 = some (.ireturn, 167, 1, 0, 0, .null, []) := rfl
theorem iGraphDeltasLaw_law_167 : ai_find (ai_tab mGraphDeltasLaw_law) 167 = some (.aload_n 1, 168, 1, 0, 0, .null, []) := rfl
theorem iGraphDeltasLaw_law_168 : ai_find (ai_tab mGraphDeltasLaw_law) 168 = some (.aload_n 0, 169, 0, 0, 0, .null, []) := rfl
theorem iGraphDeltasLaw_law_169 : ai_find (ai_tab mGraphDeltasLaw_law) 169 = some (.iload_n 3, 170, 3, 0, 0, .null, []) := rfl
theorem iGraphDeltasLaw_law_170 : ai_find (ai_tab mGraphDeltasLaw_law) 170 = some (.iconst 1, 171, 0, 0, 0, .int (nI 1), []) := rfl
theorem iGraphDeltasLaw_law_171 : ai_find (ai_tab mGraphDeltasLaw_law) 171 = some (.iadd, 172, 0, 0, 0, .null, []) := rfl
theorem iGraphDeltasLaw_law_172 : ai_find (ai_tab mGraphDeltasLaw_law) 172 = some (.iaload, 173, 0, 0, 0, .null, []) := rfl
theorem iGraphDeltasLaw_law_173 : ai_find (ai_tab mGraphDeltasLaw_law) 173 = some (.aload_n 0, 174, 0, 0, 0, .null, []) := rfl
theorem iGraphDeltasLaw_law_174 : ai_find (ai_tab mGraphDeltasLaw_law) 174 = some (.iload_n 3, 175, 3, 0, 0, .null, []) := rfl
theorem iGraphDeltasLaw_law_175 : ai_find (ai_tab mGraphDeltasLaw_law) 175 = some (.iconst 2, 176, 0, 0, 0, .int (nI 2), []) := rfl
theorem iGraphDeltasLaw_law_176 : ai_find (ai_tab mGraphDeltasLaw_law) 176 = some (.iadd, 177, 0, 0, 0, .null, []) := rfl
theorem iGraphDeltasLaw_law_177 : ai_find (ai_tab mGraphDeltasLaw_law) 177 = some (.iaload, 178, 0, 0, 0, .null, []) := rfl
theorem iGraphDeltasLaw_law_178 : ai_find (ai_tab mGraphDeltasLaw_law) 178 = some (.aload_n 0, 179, 0, 0, 0, .null, []) := rfl
theorem iGraphDeltasLaw_law_179 : ai_find (ai_tab mGraphDeltasLaw_law) 179 = some (.iload_n 3, 180, 3, 0, 0, .null, []) := rfl
theorem iGraphDeltasLaw_law_180 : ai_find (ai_tab mGraphDeltasLaw_law) 180 = some (.iconst 3, 181, 0, 0, 0, .int (nI 3), []) := rfl
set_option maxRecDepth 20000 in theorem iGraphDeltasLaw_law_181 : ai_find (ai_tab mGraphDeltasLaw_law) 181 = some (.iadd, 182, 0, 0, 0, .null, []) := rfl
set_option maxRecDepth 20000 in theorem iGraphDeltasLaw_law_182 : ai_find (ai_tab mGraphDeltasLaw_law) 182 = some (.iaload, 183, 0, 0, 0, .null, []) := rfl
set_option maxRecDepth 20000 in theorem iGraphDeltasLaw_law_183 : ai_find (ai_tab mGraphDeltasLaw_law) 183 = some (.invokevirtual 18, 186, 16, 4, 1, .ref 0, []) := rfl
set_option maxRecDepth 20000 in theorem iGraphDeltasLaw_law_186 : ai_find (ai_tab mGraphDeltasLaw_law) 186 = some (.aload_n 2, 187, 2, 0, 0, .null, []) := rfl
set_option maxRecDepth 20000 in theorem iGraphDeltasLaw_law_187 : ai_find (ai_tab mGraphDeltasLaw_law) 187 = some (.aload_n 0, 188, 0, 0, 0, .null, []) := rfl
set_option maxRecDepth 20000 in theorem iGraphDeltasLaw_law_188 : ai_find (ai_tab mGraphDeltasLaw_law) 188 = some (.iload_n 3, 189, 3, 0, 0, .null, []) := rfl
set_option maxRecDepth 20000 in theorem iGraphDeltasLaw_law_189 : ai_find (ai_tab mGraphDeltasLaw_law) 189 = some (.iconst 1, 190, 0, 0, 0, .int (nI 1), []) := rfl
set_option maxRecDepth 20000 in theorem iGraphDeltasLaw_law_190 : ai_find (ai_tab mGraphDeltasLaw_law) 190 = some (.iadd, 191, 0, 0, 0, .null, []) := rfl
set_option maxRecDepth 20000 in theorem iGraphDeltasLaw_law_191 : ai_find (ai_tab mGraphDeltasLaw_law) 191 = some (.iaload, 192, 0, 0, 0, .null, []) := rfl
set_option maxRecDepth 20000 in theorem iGraphDeltasLaw_law_192 : ai_find (ai_tab mGraphDeltasLaw_law) 192 = some (.aload_n 0, 193, 0, 0, 0, .null, []) := rfl
set_option maxRecDepth 20000 in theorem iGraphDeltasLaw_law_193 : ai_find (ai_tab mGraphDeltasLaw_law) 193 = some (.iload_n 3, 194, 3, 0, 0, .null, []) := rfl
set_option maxRecDepth 20000 in theorem iGraphDeltasLaw_law_194 : ai_find (ai_tab mGraphDeltasLaw_law) 194 = some (.iconst 2, 195, 0, 0, 0, .int (nI 2), []) := rfl
set_option maxRecDepth 20000 in theorem iGraphDeltasLaw_law_195 : ai_find (ai_tab mGraphDeltasLaw_law) 195 = some (.iadd, 196, 0, 0, 0, .null, []) := rfl
set_option maxRecDepth 20000 in theorem iGraphDeltasLaw_law_196 : ai_find (ai_tab mGraphDeltasLaw_law) 196 = some (.iaload, 197, 0, 0, 0, .null, []) := rfl
set_option maxRecDepth 20000 in theorem iGraphDeltasLaw_law_197 : ai_find (ai_tab mGraphDeltasLaw_law) 197 = some (.aload_n 0, 198, 0, 0, 0, .null, []) := rfl
set_option maxRecDepth 20000 in theorem iGraphDeltasLaw_law_198 : ai_find (ai_tab mGraphDeltasLaw_law) 198 = some (.iload_n 3, 199, 3, 0, 0, .null, []) := rfl
set_option maxRecDepth 20000 in theorem iGraphDeltasLaw_law_199 : ai_find (ai_tab mGraphDeltasLaw_law) 199 = some (.iconst 3, 200, 0, 0, 0, .int (nI 3), []) := rfl
set_option maxRecDepth 20000 in theorem iGraphDeltasLaw_law_200 : ai_find (ai_tab mGraphDeltasLaw_law) 200 = some (.iadd, 201, 0, 0, 0, .null, []) := rfl
set_option maxRecDepth 20000 in theorem iGraphDeltasLaw_law_201 : ai_find (ai_tab mGraphDeltasLaw_law) 201 = some (.iaload, 202, 0, 0, 0, .null, []) := rfl
set_option maxRecDepth 20000 in theorem iGraphDeltasLaw_law_202 : ai_find (ai_tab mGraphDeltasLaw_law) 202 = some (.invokevirtual 22, 205, 159, 4, 1, .ref 7, []) := rfl
set_option maxRecDepth 20000 in theorem iGraphDeltasLaw_law_205 : ai_find (ai_tab mGraphDeltasLaw_law) 205 = some (.if_icmp .eq 501, 208, 706, 0, 0, .null, []) := rfl
set_option maxRecDepth 20000 in theorem iGraphDeltasLaw_law_208 : ai_find (ai_tab mGraphDeltasLaw_law) 208 = some (.iconst 0, 209, 0, 0, 0, .int (nI 0), []) := rfl
set_option maxRecDepth 20000 in theorem iGraphDeltasLaw_law_209 : ai_find (ai_tab mGraphDeltasLaw_law) 209 = some (.ireturn, 210, 1, 0, 0, .null, []) := rfl
set_option maxRecDepth 20000 in theorem iGraphDeltasLaw_law_210 : ai_find (ai_tab mGraphDeltasLaw_law) 210 = some (.aload_n 1, 211, 1, 0, 0, .null, []) := rfl
set_option maxRecDepth 20000 in theorem iGraphDeltasLaw_law_211 : ai_find (ai_tab mGraphDeltasLaw_law) 211 = some (.aload_n 0, 212, 0, 0, 0, .null, []) := rfl
set_option maxRecDepth 20000 in theorem iGraphDeltasLaw_law_212 : ai_find (ai_tab mGraphDeltasLaw_law) 212 = some (.iload_n 3, 213, 3, 0, 0, .null, []) := rfl
set_option maxRecDepth 20000 in theorem iGraphDeltasLaw_law_213 : ai_find (ai_tab mGraphDeltasLaw_law) 213 = some (.iconst 1, 214, 0, 0, 0, .int (nI 1), []) := rfl
set_option maxRecDepth 20000 in theorem iGraphDeltasLaw_law_214 : ai_find (ai_tab mGraphDeltasLaw_law) 214 = some (.iadd, 215, 0, 0, 0, .null, []) := rfl
set_option maxRecDepth 20000 in theorem iGraphDeltasLaw_law_215 : ai_find (ai_tab mGraphDeltasLaw_law) 215 = some (.iaload, 216, 0, 0, 0, .null, []) := rfl
set_option maxRecDepth 20000 in theorem iGraphDeltasLaw_law_216 : ai_find (ai_tab mGraphDeltasLaw_law) 216 = some (.aload_n 0, 217, 0, 0, 0, .null, []) := rfl
set_option maxRecDepth 20000 in theorem iGraphDeltasLaw_law_217 : ai_find (ai_tab mGraphDeltasLaw_law) 217 = some (.iload_n 3, 218, 3, 0, 0, .null, []) := rfl
set_option maxRecDepth 20000 in theorem iGraphDeltasLaw_law_218 : ai_find (ai_tab mGraphDeltasLaw_law) 218 = some (.iconst 2, 219, 0, 0, 0, .int (nI 2), []) := rfl
set_option maxRecDepth 20000 in theorem iGraphDeltasLaw_law_219 : ai_find (ai_tab mGraphDeltasLaw_law) 219 = some (.iadd, 220, 0, 0, 0, .null, []) := rfl
set_option maxRecDepth 20000 in theorem iGraphDeltasLaw_law_220 : ai_find (ai_tab mGraphDeltasLaw_law) 220 = some (.iaload, 221, 0, 0, 0, .null, []) := rfl
set_option maxRecDepth 20000 in theorem iGraphDeltasLaw_law_221 : ai_find (ai_tab mGraphDeltasLaw_law) 221 = some (.aload_n 0, 222, 0, 0, 0, .null, []) := rfl
set_option maxRecDepth 20000 in theorem iGraphDeltasLaw_law_222 : ai_find (ai_tab mGraphDeltasLaw_law) 222 = some (.iload_n 3, 223, 3, 0, 0, .null, []) := rfl
set_option maxRecDepth 20000 in theorem iGraphDeltasLaw_law_223 : ai_find (ai_tab mGraphDeltasLaw_law) 223 = some (.iconst 3, 224, 0, 0, 0, .int (nI 3), []) := rfl
set_option maxRecDepth 20000 in theorem iGraphDeltasLaw_law_224 : ai_find (ai_tab mGraphDeltasLaw_law) 224 = some (.iadd, 225, 0, 0, 0, .null, []) := rfl
set_option maxRecDepth 20000 in theorem iGraphDeltasLaw_law_225 : ai_find (ai_tab mGraphDeltasLaw_law) 225 = some (.iaload, 226, 0, 0, 0, .null, []) := rfl
set_option maxRecDepth 20000 in theorem iGraphDeltasLaw_law_226 : ai_find (ai_tab mGraphDeltasLaw_law) 226 = some (.invokevirtual 23, 229, 12, 4, 1, .ref 0, []) := rfl
set_option maxRecDepth 20000 in theorem iGraphDeltasLaw_law_229 : ai_find (ai_tab mGraphDeltasLaw_law) 229 = some (.aload_n 2, 230, 2, 0, 0, .null, []) := rfl
set_option maxRecDepth 20000 in theorem iGraphDeltasLaw_law_230 : ai_find (ai_tab mGraphDeltasLaw_law) 230 = some (.aload_n 0, 231, 0, 0, 0, .null, []) := rfl
set_option maxRecDepth 20000 in theorem iGraphDeltasLaw_law_231 : ai_find (ai_tab mGraphDeltasLaw_law) 231 = some (.iload_n 3, 232, 3, 0, 0, .null, []) := rfl
set_option maxRecDepth 20000 in theorem iGraphDeltasLaw_law_232 : ai_find (ai_tab mGraphDeltasLaw_law) 232 = some (.iconst 1, 233, 0, 0, 0, .int (nI 1), []) := rfl
set_option maxRecDepth 20000 in theorem iGraphDeltasLaw_law_233 : ai_find (ai_tab mGraphDeltasLaw_law) 233 = some (.iadd, 234, 0, 0, 0, .null, []) := rfl
set_option maxRecDepth 20000 in theorem iGraphDeltasLaw_law_234 : ai_find (ai_tab mGraphDeltasLaw_law) 234 = some (.iaload, 235, 0, 0, 0, .null, []) := rfl
set_option maxRecDepth 20000 in theorem iGraphDeltasLaw_law_235 : ai_find (ai_tab mGraphDeltasLaw_law) 235 = some (.aload_n 0, 236, 0, 0, 0, .null, []) := rfl
set_option maxRecDepth 20000 in theorem iGraphDeltasLaw_law_236 : ai_find (ai_tab mGraphDeltasLaw_law) 236 = some (.iload_n 3, 237, 3, 0, 0, .null, []) := rfl
set_option maxRecDepth 20000 in theorem iGraphDeltasLaw_law_237 : ai_find (ai_tab mGraphDeltasLaw_law) 237 = some (.iconst 2, 238, 0, 0, 0, .int (nI 2), []) := rfl
set_option maxRecDepth 20000 in theorem iGraphDeltasLaw_law_238 : ai_find (ai_tab mGraphDeltasLaw_law) 238 = some (.iadd, 239, 0, 0, 0, .null, []) := rfl
set_option maxRecDepth 20000 in theorem iGraphDeltasLaw_law_239 : ai_find (ai_tab mGraphDeltasLaw_law) 239 = some (.iaload, 240, 0, 0, 0, .null, []) := rfl
set_option maxRecDepth 20000 in theorem iGraphDeltasLaw_law_240 : ai_find (ai_tab mGraphDeltasLaw_law) 240 = some (.aload_n 0, 241, 0, 0, 0, .null, []) := rfl
set_option maxRecDepth 20000 in theorem iGraphDeltasLaw_law_241 : ai_find (ai_tab mGraphDeltasLaw_law) 241 = some (.iload_n 3, 242, 3, 0, 0, .null, []) := rfl
set_option maxRecDepth 20000 in theorem iGraphDeltasLaw_law_242 : ai_find (ai_tab mGraphDeltasLaw_law) 242 = some (.iconst 3, 243, 0, 0, 0, .int (nI 3), []) := rfl
set_option maxRecDepth 20000 in theorem iGraphDeltasLaw_law_243 : ai_find (ai_tab mGraphDeltasLaw_law) 243 = some (.iadd, 244, 0, 0, 0, .null, []) := rfl
set_option maxRecDepth 20000 in theorem iGraphDeltasLaw_law_244 : ai_find (ai_tab mGraphDeltasLaw_law) 244 = some (.iaload, 245, 0, 0, 0, .null, []) := rfl
set_option maxRecDepth 20000 in theorem iGraphDeltasLaw_law_245 : ai_find (ai_tab mGraphDeltasLaw_law) 245 = some (.invokevirtual 26, 248, 150, 4, 1, .ref 7, []) := rfl
set_option maxRecDepth 20000 in theorem iGraphDeltasLaw_law_248 : ai_find (ai_tab mGraphDeltasLaw_law) 248 = some (.if_icmp .eq 458, 251, 706, 0, 0, .null, []) := rfl
set_option maxRecDepth 20000 in theorem iGraphDeltasLaw_law_251 : ai_find (ai_tab mGraphDeltasLaw_law) 251 = some (.iconst 0, 252, 0, 0, 0, .int (nI 0), []) := rfl
set_option maxRecDepth 20000 in theorem iGraphDeltasLaw_law_252 : ai_find (ai_tab mGraphDeltasLaw_law) 252 = some (.ireturn, 253, 1, 0, 0, .null, []) := rfl
set_option maxRecDepth 20000 in theorem iGraphDeltasLaw_law_253 : ai_find (ai_tab mGraphDeltasLaw_law) 253 = some (.aload_n 1, 254, 1, 0, 0, .null, []) := rfl
set_option maxRecDepth 20000 in theorem iGraphDeltasLaw_law_254 : ai_find (ai_tab mGraphDeltasLaw_law) 254 = some (.aload_n 0, 255, 0, 0, 0, .null, []) := rfl
set_option maxRecDepth 20000 in theorem iGraphDeltasLaw_law_255 : ai_find (ai_tab mGraphDeltasLaw_law) 255 = some (.iload_n 3, 256, 3, 0, 0, .null, []) := rfl
set_option maxRecDepth 20000 in theorem iGraphDeltasLaw_law_256 : ai_find (ai_tab mGraphDeltasLaw_law) 256 = some (.iconst 1, 257, 0, 0, 0, .int (nI 1), []) := rfl
set_option maxRecDepth 20000 in theorem iGraphDeltasLaw_law_257 : ai_find (ai_tab mGraphDeltasLaw_law) 257 = some (.iadd, 258, 0, 0, 0, .null, []) := rfl
set_option maxRecDepth 20000 in theorem iGraphDeltasLaw_law_258 : ai_find (ai_tab mGraphDeltasLaw_law) 258 = some (.iaload, 259, 0, 0, 0, .null, []) := rfl
set_option maxRecDepth 20000 in theorem iGraphDeltasLaw_law_259 : ai_find (ai_tab mGraphDeltasLaw_law) 259 = some (.aload_n 0, 260, 0, 0, 0, .null, []) := rfl
set_option maxRecDepth 20000 in theorem iGraphDeltasLaw_law_260 : ai_find (ai_tab mGraphDeltasLaw_law) 260 = some (.iload_n 3, 261, 3, 0, 0, .null, []) := rfl
set_option maxRecDepth 20000 in theorem iGraphDeltasLaw_law_261 : ai_find (ai_tab mGraphDeltasLaw_law) 261 = some (.iconst 2, 262, 0, 0, 0, .int (nI 2), []) := rfl
set_option maxRecDepth 20000 in theorem iGraphDeltasLaw_law_262 : ai_find (ai_tab mGraphDeltasLaw_law) 262 = some (.iadd, 263, 0, 0, 0, .null, []) := rfl
set_option maxRecDepth 20000 in theorem iGraphDeltasLaw_law_263 : ai_find (ai_tab mGraphDeltasLaw_law) 263 = some (.iaload, 264, 0, 0, 0, .null, []) := rfl
set_option maxRecDepth 20000 in theorem iGraphDeltasLaw_law_264 : ai_find (ai_tab mGraphDeltasLaw_law) 264 = some (.aload_n 0, 265, 0, 0, 0, .null, []) := rfl
set_option maxRecDepth 20000 in theorem iGraphDeltasLaw_law_265 : ai_find (ai_tab mGraphDeltasLaw_law) 265 = some (.iload_n 3, 266, 3, 0, 0, .null, []) := rfl
set_option maxRecDepth 20000 in theorem iGraphDeltasLaw_law_266 : ai_find (ai_tab mGraphDeltasLaw_law) 266 = some (.iconst 3, 267, 0, 0, 0, .int (nI 3), []) := rfl
set_option maxRecDepth 20000 in theorem iGraphDeltasLaw_law_267 : ai_find (ai_tab mGraphDeltasLaw_law) 267 = some (.iadd, 268, 0, 0, 0, .null, []) := rfl
set_option maxRecDepth 20000 in theorem iGraphDeltasLaw_law_268 : ai_find (ai_tab mGraphDeltasLaw_law) 268 = some (.iaload, 269, 0, 0, 0, .null, []) := rfl
set_option maxRecDepth 20000 in theorem iGraphDeltasLaw_law_269 : ai_find (ai_tab mGraphDeltasLaw_law) 269 = some (.invokevirtual 27, 272, 9, 4, 1, .ref 0, []) := rfl
set_option maxRecDepth 20000 in theorem iGraphDeltasLaw_law_272 : ai_find (ai_tab mGraphDeltasLaw_law) 272 = some (.aload_n 2, 273, 2, 0, 0, .null, []) := rfl
set_option maxRecDepth 20000 in theorem iGraphDeltasLaw_law_273 : ai_find (ai_tab mGraphDeltasLaw_law) 273 = some (.aload_n 0, 274, 0, 0, 0, .null, []) := rfl
set_option maxRecDepth 20000 in theorem iGraphDeltasLaw_law_274 : ai_find (ai_tab mGraphDeltasLaw_law) 274 = some (.iload_n 3, 275, 3, 0, 0, .null, []) := rfl
set_option maxRecDepth 20000 in theorem iGraphDeltasLaw_law_275 : ai_find (ai_tab mGraphDeltasLaw_law) 275 = some (.iconst 1, 276, 0, 0, 0, .int (nI 1), []) := rfl
set_option maxRecDepth 20000 in theorem iGraphDeltasLaw_law_276 : ai_find (ai_tab mGraphDeltasLaw_law) 276 = some (.iadd, 277, 0, 0, 0, .null, []) := rfl
set_option maxRecDepth 20000 in theorem iGraphDeltasLaw_law_277 : ai_find (ai_tab mGraphDeltasLaw_law) 277 = some (.iaload, 278, 0, 0, 0, .null, []) := rfl
set_option maxRecDepth 20000 in theorem iGraphDeltasLaw_law_278 : ai_find (ai_tab mGraphDeltasLaw_law) 278 = some (.aload_n 0, 279, 0, 0, 0, .null, []) := rfl
set_option maxRecDepth 20000 in theorem iGraphDeltasLaw_law_279 : ai_find (ai_tab mGraphDeltasLaw_law) 279 = some (.iload_n 3, 280, 3, 0, 0, .null, []) := rfl
set_option maxRecDepth 20000 in theorem iGraphDeltasLaw_law_280 : ai_find (ai_tab mGraphDeltasLaw_law) 280 = some (.iconst 2, 281, 0, 0, 0, .int (nI 2), []) := rfl
set_option maxRecDepth 20000 in theorem iGraphDeltasLaw_law_281 : ai_find (ai_tab mGraphDeltasLaw_law) 281 = some (.iadd, 282, 0, 0, 0, .null, []) := rfl
set_option maxRecDepth 20000 in theorem iGraphDeltasLaw_law_282 : ai_find (ai_tab mGraphDeltasLaw_law) 282 = some (.iaload, 283, 0, 0, 0, .null, []) := rfl
set_option maxRecDepth 20000 in theorem iGraphDeltasLaw_law_283 : ai_find (ai_tab mGraphDeltasLaw_law) 283 = some (.aload_n 0, 284, 0, 0, 0, .null, []) := rfl
set_option maxRecDepth 20000 in theorem iGraphDeltasLaw_law_284 : ai_find (ai_tab mGraphDeltasLaw_law) 284 = some (.iload_n 3, 285, 3, 0, 0, .null, []) := rfl
set_option maxRecDepth 20000 in theorem iGraphDeltasLaw_law_285 : ai_find (ai_tab mGraphDeltasLaw_law) 285 = some (.iconst 3, 286, 0, 0, 0, .int (nI 3), []) := rfl
set_option maxRecDepth 20000 in theorem iGraphDeltasLaw_law_286 : ai_find (ai_tab mGraphDeltasLaw_law) 286 = some (.iadd, 287, 0, 0, 0, .null, []) := rfl
set_option maxRecDepth 20000 in theorem iGraphDeltasLaw_law_287 : ai_find (ai_tab mGraphDeltasLaw_law) 287 = some (.iaload, 288, 0, 0, 0, .null, []) := rfl
set_option maxRecDepth 20000 in theorem iGraphDeltasLaw_law_288 : ai_find (ai_tab mGraphDeltasLaw_law) 288 = some (.invokevirtual 30, 291, 143, 4, 1, .ref 7, []) := rfl
set_option maxRecDepth 20000 in theorem iGraphDeltasLaw_law_291 : ai_find (ai_tab mGraphDeltasLaw_law) 291 = some (.if_icmp .eq 415, 294, 706, 0, 0, .null, []) := rfl
set_option maxRecDepth 20000 in theorem iGraphDeltasLaw_law_294 : ai_find (ai_tab mGraphDeltasLaw_law) 294 = some (.iconst 0, 295, 0, 0, 0, .int (nI 0), []) := rfl
set_option maxRecDepth 20000 in theorem iGraphDeltasLaw_law_295 : ai_find (ai_tab mGraphDeltasLaw_law) 295 = some (.ireturn, 296, 1, 0, 0, .null, []) := rfl
set_option maxRecDepth 20000 in theorem iGraphDeltasLaw_law_296 : ai_find (ai_tab mGraphDeltasLaw_law) 296 = some (.aload_n 1, 297, 1, 0, 0, .null, []) := rfl
set_option maxRecDepth 20000 in theorem iGraphDeltasLaw_law_297 : ai_find (ai_tab mGraphDeltasLaw_law) 297 = some (.aload_n 0, 298, 0, 0, 0, .null, []) := rfl
set_option maxRecDepth 20000 in theorem iGraphDeltasLaw_law_298 : ai_find (ai_tab mGraphDeltasLaw_law) 298 = some (.iload_n 3, 299, 3, 0, 0, .null, []) := rfl
set_option maxRecDepth 20000 in theorem iGraphDeltasLaw_law_299 : ai_find (ai_tab mGraphDeltasLaw_law) 299 = some (.iconst 1, 300, 0, 0, 0, .int (nI 1), []) := rfl
set_option maxRecDepth 20000 in theorem iGraphDeltasLaw_law_300 : ai_find (ai_tab mGraphDeltasLaw_law) 300 = some (.iadd, 301, 0, 0, 0, .null, []) := rfl
set_option maxRecDepth 20000 in theorem iGraphDeltasLaw_law_301 : ai_find (ai_tab mGraphDeltasLaw_law) 301 = some (.iaload, 302, 0, 0, 0, .null, []) := rfl
set_option maxRecDepth 20000 in theorem iGraphDeltasLaw_law_302 : ai_find (ai_tab mGraphDeltasLaw_law) 302 = some (.aload_n 0, 303, 0, 0, 0, .null, []) := rfl
set_option maxRecDepth 20000 in theorem iGraphDeltasLaw_law_303 : ai_find (ai_tab mGraphDeltasLaw_law) 303 = some (.iload_n 3, 304, 3, 0, 0, .null, []) := rfl
set_option maxRecDepth 20000 in theorem iGraphDeltasLaw_law_304 : ai_find (ai_tab mGraphDeltasLaw_law) 304 = some (.iconst 2, 305, 0, 0, 0, .int (nI 2), []) := rfl
set_option maxRecDepth 20000 in theorem iGraphDeltasLaw_law_305 : ai_find (ai_tab mGraphDeltasLaw_law) 305 = some (.iadd, 306, 0, 0, 0, .null, []) := rfl
set_option maxRecDepth 20000 in theorem iGraphDeltasLaw_law_306 : ai_find (ai_tab mGraphDeltasLaw_law) 306 = some (.iaload, 307, 0, 0, 0, .null, []) := rfl
set_option maxRecDepth 20000 in theorem iGraphDeltasLaw_law_307 : ai_find (ai_tab mGraphDeltasLaw_law) 307 = some (.invokevirtual 31, 310, 17, 3, 1, .ref 0, []) := rfl
set_option maxRecDepth 20000 in theorem iGraphDeltasLaw_law_310 : ai_find (ai_tab mGraphDeltasLaw_law) 310 = some (.aload_n 2, 311, 2, 0, 0, .null, []) := rfl
set_option maxRecDepth 20000 in theorem iGraphDeltasLaw_law_311 : ai_find (ai_tab mGraphDeltasLaw_law) 311 = some (.aload_n 0, 312, 0, 0, 0, .null, []) := rfl
set_option maxRecDepth 20000 in theorem iGraphDeltasLaw_law_312 : ai_find (ai_tab mGraphDeltasLaw_law) 312 = some (.iload_n 3, 313, 3, 0, 0, .null, []) := rfl
set_option maxRecDepth 20000 in theorem iGraphDeltasLaw_law_313 : ai_find (ai_tab mGraphDeltasLaw_law) 313 = some (.iconst 1, 314, 0, 0, 0, .int (nI 1), []) := rfl
set_option maxRecDepth 20000 in theorem iGraphDeltasLaw_law_314 : ai_find (ai_tab mGraphDeltasLaw_law) 314 = some (.iadd, 315, 0, 0, 0, .null, []) := rfl
set_option maxRecDepth 20000 in theorem iGraphDeltasLaw_law_315 : ai_find (ai_tab mGraphDeltasLaw_law) 315 = some (.iaload, 316, 0, 0, 0, .null, []) := rfl
set_option maxRecDepth 20000 in theorem iGraphDeltasLaw_law_316 : ai_find (ai_tab mGraphDeltasLaw_law) 316 = some (.aload_n 0, 317, 0, 0, 0, .null, []) := rfl
set_option maxRecDepth 20000 in theorem iGraphDeltasLaw_law_317 : ai_find (ai_tab mGraphDeltasLaw_law) 317 = some (.iload_n 3, 318, 3, 0, 0, .null, []) := rfl
set_option maxRecDepth 20000 in theorem iGraphDeltasLaw_law_318 : ai_find (ai_tab mGraphDeltasLaw_law) 318 = some (.iconst 2, 319, 0, 0, 0, .int (nI 2), []) := rfl
set_option maxRecDepth 20000 in theorem iGraphDeltasLaw_law_319 : ai_find (ai_tab mGraphDeltasLaw_law) 319 = some (.iadd, 320, 0, 0, 0, .null, []) := rfl
set_option maxRecDepth 20000 in theorem iGraphDeltasLaw_law_320 : ai_find (ai_tab mGraphDeltasLaw_law) 320 = some (.iaload, 321, 0, 0, 0, .null, []) := rfl
set_option maxRecDepth 20000 in theorem iGraphDeltasLaw_law_321 : ai_find (ai_tab mGraphDeltasLaw_law) 321 = some (.invokevirtual 35, 324, 164, 3, 1, .ref 7, []) := rfl
set_option maxRecDepth 20000 in theorem iGraphDeltasLaw_law_324 : ai_find (ai_tab mGraphDeltasLaw_law) 324 = some (.if_icmp .eq 382, 327, 706, 0, 0, .null, []) := rfl
set_option maxRecDepth 20000 in theorem iGraphDeltasLaw_law_327 : ai_find (ai_tab mGraphDeltasLaw_law) 327 = some (.iconst 0, 328, 0, 0, 0, .int (nI 0), []) := rfl
set_option maxRecDepth 20000 in theorem iGraphDeltasLaw_law_328 : ai_find (ai_tab mGraphDeltasLaw_law) 328 = some (.ireturn, 329, 1, 0, 0, .null, []) := rfl
set_option maxRecDepth 20000 in theorem iGraphDeltasLaw_law_329 : ai_find (ai_tab mGraphDeltasLaw_law) 329 = some (.aload_n 1, 330, 1, 0, 0, .null, []) := rfl
set_option maxRecDepth 20000 in theorem iGraphDeltasLaw_law_330 : ai_find (ai_tab mGraphDeltasLaw_law) 330 = some (.aload_n 0, 331, 0, 0, 0, .null, []) := rfl
set_option maxRecDepth 20000 in theorem iGraphDeltasLaw_law_331 : ai_find (ai_tab mGraphDeltasLaw_law) 331 = some (.iload_n 3, 332, 3, 0, 0, .null, []) := rfl
set_option maxRecDepth 20000 in theorem iGraphDeltasLaw_law_332 : ai_find (ai_tab mGraphDeltasLaw_law) 332 = some (.iconst 1, 333, 0, 0, 0, .int (nI 1), []) := rfl
set_option maxRecDepth 20000 in theorem iGraphDeltasLaw_law_333 : ai_find (ai_tab mGraphDeltasLaw_law) 333 = some (.iadd, 334, 0, 0, 0, .null, []) := rfl
set_option maxRecDepth 20000 in theorem iGraphDeltasLaw_law_334 : ai_find (ai_tab mGraphDeltasLaw_law) 334 = some (.iaload, 335, 0, 0, 0, .null, []) := rfl
set_option maxRecDepth 20000 in theorem iGraphDeltasLaw_law_335 : ai_find (ai_tab mGraphDeltasLaw_law) 335 = some (.invokevirtual 36, 338, 11, 2, 1, .ref 0, []) := rfl
set_option maxRecDepth 20000 in theorem iGraphDeltasLaw_law_338 : ai_find (ai_tab mGraphDeltasLaw_law) 338 = some (.aload_n 2, 339, 2, 0, 0, .null, []) := rfl
set_option maxRecDepth 20000 in theorem iGraphDeltasLaw_law_339 : ai_find (ai_tab mGraphDeltasLaw_law) 339 = some (.aload_n 0, 340, 0, 0, 0, .null, []) := rfl
set_option maxRecDepth 20000 in theorem iGraphDeltasLaw_law_340 : ai_find (ai_tab mGraphDeltasLaw_law) 340 = some (.iload_n 3, 341, 3, 0, 0, .null, []) := rfl
set_option maxRecDepth 20000 in theorem iGraphDeltasLaw_law_341 : ai_find (ai_tab mGraphDeltasLaw_law) 341 = some (.iconst 1, 342, 0, 0, 0, .int (nI 1), []) := rfl
set_option maxRecDepth 20000 in theorem iGraphDeltasLaw_law_342 : ai_find (ai_tab mGraphDeltasLaw_law) 342 = some (.iadd, 343, 0, 0, 0, .null, []) := rfl
set_option maxRecDepth 20000 in theorem iGraphDeltasLaw_law_343 : ai_find (ai_tab mGraphDeltasLaw_law) 343 = some (.iaload, 344, 0, 0, 0, .null, []) := rfl
set_option maxRecDepth 20000 in theorem iGraphDeltasLaw_law_344 : ai_find (ai_tab mGraphDeltasLaw_law) 344 = some (.invokevirtual 40, 347, 149, 2, 1, .ref 7, []) := rfl
set_option maxRecDepth 20000 in theorem iGraphDeltasLaw_law_347 : ai_find (ai_tab mGraphDeltasLaw_law) 347 = some (.if_icmp .eq 359, 350, 706, 0, 0, .null, []) := rfl
set_option maxRecDepth 20000 in theorem iGraphDeltasLaw_law_350 : ai_find (ai_tab mGraphDeltasLaw_law) 350 = some (.iconst 0, 351, 0, 0, 0, .int (nI 0), []) := rfl
set_option maxRecDepth 20000 in theorem iGraphDeltasLaw_law_351 : ai_find (ai_tab mGraphDeltasLaw_law) 351 = some (.ireturn, 352, 1, 0, 0, .null, []) := rfl
set_option maxRecDepth 20000 in theorem iGraphDeltasLaw_law_352 : ai_find (ai_tab mGraphDeltasLaw_law) 352 = some (.aload_n 1, 353, 1, 0, 0, .null, []) := rfl
set_option maxRecDepth 20000 in theorem iGraphDeltasLaw_law_353 : ai_find (ai_tab mGraphDeltasLaw_law) 353 = some (.aload_n 0, 354, 0, 0, 0, .null, []) := rfl
set_option maxRecDepth 20000 in theorem iGraphDeltasLaw_law_354 : ai_find (ai_tab mGraphDeltasLaw_law) 354 = some (.iload_n 3, 355, 3, 0, 0, .null, []) := rfl
set_option maxRecDepth 20000 in theorem iGraphDeltasLaw_law_355 : ai_find (ai_tab mGraphDeltasLaw_law) 355 = some (.iconst 1, 356, 0, 0, 0, .int (nI 1), []) := rfl
set_option maxRecDepth 20000 in theorem iGraphDeltasLaw_law_356 : ai_find (ai_tab mGraphDeltasLaw_law) 356 = some (.iadd, 357, 0, 0, 0, .null, []) := rfl
set_option maxRecDepth 20000 in theorem iGraphDeltasLaw_law_357 : ai_find (ai_tab mGraphDeltasLaw_law) 357 = some (.iaload, 358, 0, 0, 0, .null, []) := rfl
set_option maxRecDepth 20000 in theorem iGraphDeltasLaw_law_358 : ai_find (ai_tab mGraphDeltasLaw_law) 358 = some (.aload_n 0, 359, 0, 0, 0, .null, []) := rfl
set_option maxRecDepth 20000 in theorem iGraphDeltasLaw_law_359 : ai_find (ai_tab mGraphDeltasLaw_law) 359 = some (.iload_n 3, 360, 3, 0, 0, .null, []) := rfl
set_option maxRecDepth 20000 in theorem iGraphDeltasLaw_law_360 : ai_find (ai_tab mGraphDeltasLaw_law) 360 = some (.iconst 2, 361, 0, 0, 0, .int (nI 2), []) := rfl
set_option maxRecDepth 20000 in theorem iGraphDeltasLaw_law_361 : ai_find (ai_tab mGraphDeltasLaw_law) 361 = some (.iadd, 362, 0, 0, 0, .null, []) := rfl
set_option maxRecDepth 20000 in theorem iGraphDeltasLaw_law_362 : ai_find (ai_tab mGraphDeltasLaw_law) 362 = some (.iaload, 363, 0, 0, 0, .null, []) := rfl
set_option maxRecDepth 20000 in theorem iGraphDeltasLaw_law_363 : ai_find (ai_tab mGraphDeltasLaw_law) 363 = some (.invokevirtual 41, 366, 21, 3, 1, .ref 0, []) := rfl
set_option maxRecDepth 20000 in theorem iGraphDeltasLaw_law_366 : ai_find (ai_tab mGraphDeltasLaw_law) 366 = some (.aload_n 2, 367, 2, 0, 0, .null, []) := rfl
set_option maxRecDepth 20000 in theorem iGraphDeltasLaw_law_367 : ai_find (ai_tab mGraphDeltasLaw_law) 367 = some (.aload_n 0, 368, 0, 0, 0, .null, []) := rfl
set_option maxRecDepth 20000 in theorem iGraphDeltasLaw_law_368 : ai_find (ai_tab mGraphDeltasLaw_law) 368 = some (.iload_n 3, 369, 3, 0, 0, .null, []) := rfl
set_option maxRecDepth 20000 in theorem iGraphDeltasLaw_law_369 : ai_find (ai_tab mGraphDeltasLaw_law) 369 = some (.iconst 1, 370, 0, 0, 0, .int (nI 1), []) := rfl
set_option maxRecDepth 20000 in theorem iGraphDeltasLaw_law_370 : ai_find (ai_tab mGraphDeltasLaw_law) 370 = some (.iadd, 371, 0, 0, 0, .null, []) := rfl
set_option maxRecDepth 20000 in theorem iGraphDeltasLaw_law_371 : ai_find (ai_tab mGraphDeltasLaw_law) 371 = some (.iaload, 372, 0, 0, 0, .null, []) := rfl
set_option maxRecDepth 20000 in theorem iGraphDeltasLaw_law_372 : ai_find (ai_tab mGraphDeltasLaw_law) 372 = some (.aload_n 0, 373, 0, 0, 0, .null, []) := rfl
set_option maxRecDepth 20000 in theorem iGraphDeltasLaw_law_373 : ai_find (ai_tab mGraphDeltasLaw_law) 373 = some (.iload_n 3, 374, 3, 0, 0, .null, []) := rfl
set_option maxRecDepth 20000 in theorem iGraphDeltasLaw_law_374 : ai_find (ai_tab mGraphDeltasLaw_law) 374 = some (.iconst 2, 375, 0, 0, 0, .int (nI 2), []) := rfl
set_option maxRecDepth 20000 in theorem iGraphDeltasLaw_law_375 : ai_find (ai_tab mGraphDeltasLaw_law) 375 = some (.iadd, 376, 0, 0, 0, .null, []) := rfl
set_option maxRecDepth 20000 in theorem iGraphDeltasLaw_law_376 : ai_find (ai_tab mGraphDeltasLaw_law) 376 = some (.iaload, 377, 0, 0, 0, .null, []) := rfl
set_option maxRecDepth 20000 in theorem iGraphDeltasLaw_law_377 : ai_find (ai_tab mGraphDeltasLaw_law) 377 = some (.invokevirtual 45, 380, 176, 3, 1, .ref 7, []) := rfl
set_option maxRecDepth 20000 in theorem iGraphDeltasLaw_law_380 : ai_find (ai_tab mGraphDeltasLaw_law) 380 = some (.lcmp, 381, 0, 0, 0, .null, []) := rfl
set_option maxRecDepth 20000 in theorem iGraphDeltasLaw_law_381 : ai_find (ai_tab mGraphDeltasLaw_law) 381 = some (.ifCond .eq 325, 384, 706, 0, 0, .null, []) := rfl
set_option maxRecDepth 20000 in theorem iGraphDeltasLaw_law_384 : ai_find (ai_tab mGraphDeltasLaw_law) 384 = some (.iconst 0, 385, 0, 0, 0, .int (nI 0), []) := rfl
set_option maxRecDepth 20000 in theorem iGraphDeltasLaw_law_385 : ai_find (ai_tab mGraphDeltasLaw_law) 385 = some (.ireturn, 386, 1, 0, 0, .null, []) := rfl
set_option maxRecDepth 20000 in theorem iGraphDeltasLaw_law_386 : ai_find (ai_tab mGraphDeltasLaw_law) 386 = some (.aload_n 1, 387, 1, 0, 0, .null, []) := rfl
set_option maxRecDepth 20000 in theorem iGraphDeltasLaw_law_387 : ai_find (ai_tab mGraphDeltasLaw_law) 387 = some (.invokevirtual 46, 390, 20, 1, 1, .ref 0, []) := rfl
set_option maxRecDepth 20000 in theorem iGraphDeltasLaw_law_390 : ai_find (ai_tab mGraphDeltasLaw_law) 390 = some (.aload_n 2, 391, 2, 0, 0, .null, []) := rfl
set_option maxRecDepth 20000 in theorem iGraphDeltasLaw_law_391 : ai_find (ai_tab mGraphDeltasLaw_law) 391 = some (.invokevirtual 50, 394, 170, 1, 1, .ref 7, []) := rfl
set_option maxRecDepth 20000 in theorem iGraphDeltasLaw_law_394 : ai_find (ai_tab mGraphDeltasLaw_law) 394 = some (.if_icmp .eq 312, 397, 706, 0, 0, .null, []) := rfl
set_option maxRecDepth 20000 in theorem iGraphDeltasLaw_law_397 : ai_find (ai_tab mGraphDeltasLaw_law) 397 = some (.iconst 0, 398, 0, 0, 0, .int (nI 0), []) := rfl
set_option maxRecDepth 20000 in theorem iGraphDeltasLaw_law_398 : ai_find (ai_tab mGraphDeltasLaw_law) 398 = some (.ireturn, 399, 1, 0, 0, .null, []) := rfl
set_option maxRecDepth 20000 in theorem iGraphDeltasLaw_law_399 : ai_find (ai_tab mGraphDeltasLaw_law) 399 = some (.aload_n 1, 400, 1, 0, 0, .null, []) := rfl
set_option maxRecDepth 20000 in theorem iGraphDeltasLaw_law_400 : ai_find (ai_tab mGraphDeltasLaw_law) 400 = some (.aload_n 0, 401, 0, 0, 0, .null, []) := rfl
set_option maxRecDepth 20000 in theorem iGraphDeltasLaw_law_401 : ai_find (ai_tab mGraphDeltasLaw_law) 401 = some (.iload_n 3, 402, 3, 0, 0, .null, []) := rfl
set_option maxRecDepth 20000 in theorem iGraphDeltasLaw_law_402 : ai_find (ai_tab mGraphDeltasLaw_law) 402 = some (.iconst 1, 403, 0, 0, 0, .int (nI 1), []) := rfl
set_option maxRecDepth 20000 in theorem iGraphDeltasLaw_law_403 : ai_find (ai_tab mGraphDeltasLaw_law) 403 = some (.iadd, 404, 0, 0, 0, .null, []) := rfl
set_option maxRecDepth 20000 in theorem iGraphDeltasLaw_law_404 : ai_find (ai_tab mGraphDeltasLaw_law) 404 = some (.iaload, 405, 0, 0, 0, .null, []) := rfl
set_option maxRecDepth 20000 in theorem iGraphDeltasLaw_law_405 : ai_find (ai_tab mGraphDeltasLaw_law) 405 = some (.invokevirtual 51, 408, 18, 2, 1, .ref 0, []) := rfl
set_option maxRecDepth 20000 in theorem iGraphDeltasLaw_law_408 : ai_find (ai_tab mGraphDeltasLaw_law) 408 = some (.aload_n 2, 409, 2, 0, 0, .null, []) := rfl
set_option maxRecDepth 20000 in theorem iGraphDeltasLaw_law_409 : ai_find (ai_tab mGraphDeltasLaw_law) 409 = some (.aload_n 0, 410, 0, 0, 0, .null, []) := rfl
set_option maxRecDepth 20000 in theorem iGraphDeltasLaw_law_410 : ai_find (ai_tab mGraphDeltasLaw_law) 410 = some (.iload_n 3, 411, 3, 0, 0, .null, []) := rfl
set_option maxRecDepth 20000 in theorem iGraphDeltasLaw_law_411 : ai_find (ai_tab mGraphDeltasLaw_law) 411 = some (.iconst 1, 412, 0, 0, 0, .int (nI 1), []) := rfl
set_option maxRecDepth 20000 in theorem iGraphDeltasLaw_law_412 : ai_find (ai_tab mGraphDeltasLaw_law) 412 = some (.iadd, 413, 0, 0, 0, .null, []) := rfl
set_option maxRecDepth 20000 in theorem iGraphDeltasLaw_law_413 : ai_find (ai_tab mGraphDeltasLaw_law) 413 = some (.iaload, 414, 0, 0, 0, .null, []) := rfl
set_option maxRecDepth 20000 in theorem iGraphDeltasLaw_law_414 : ai_find (ai_tab mGraphDeltasLaw_law) 414 = some (.invokevirtual 55, 417, 165, 2, 1, .ref 7, []) := rfl
set_option maxRecDepth 20000 in theorem iGraphDeltasLaw_law_417 : ai_find (ai_tab mGraphDeltasLaw_law) 417 = some (.if_icmp .eq 289, 420, 706, 0, 0, .null, []) := rfl
set_option maxRecDepth 20000 in theorem iGraphDeltasLaw_law_420 : ai_find (ai_tab mGraphDeltasLaw_law) 420 = some (.iconst 0, 421, 0, 0, 0, .int (nI 0), []) := rfl
set_option maxRecDepth 20000 in theorem iGraphDeltasLaw_law_421 : ai_find (ai_tab mGraphDeltasLaw_law) 421 = some (.ireturn, 422, 1, 0, 0, .null, []) := rfl
set_option maxRecDepth 20000 in theorem iGraphDeltasLaw_law_422 : ai_find (ai_tab mGraphDeltasLaw_law) 422 = some (.aload_n 1, 423, 1, 0, 0, .null, []) := rfl
set_option maxRecDepth 20000 in theorem iGraphDeltasLaw_law_423 : ai_find (ai_tab mGraphDeltasLaw_law) 423 = some (.aload_n 0, 424, 0, 0, 0, .null, []) := rfl
set_option maxRecDepth 20000 in theorem iGraphDeltasLaw_law_424 : ai_find (ai_tab mGraphDeltasLaw_law) 424 = some (.iload_n 3, 425, 3, 0, 0, .null, []) := rfl
set_option maxRecDepth 20000 in theorem iGraphDeltasLaw_law_425 : ai_find (ai_tab mGraphDeltasLaw_law) 425 = some (.iconst 1, 426, 0, 0, 0, .int (nI 1), []) := rfl
set_option maxRecDepth 20000 in theorem iGraphDeltasLaw_law_426 : ai_find (ai_tab mGraphDeltasLaw_law) 426 = some (.iadd, 427, 0, 0, 0, .null, []) := rfl
set_option maxRecDepth 20000 in theorem iGraphDeltasLaw_law_427 : ai_find (ai_tab mGraphDeltasLaw_law) 427 = some (.iaload, 428, 0, 0, 0, .null, []) := rfl
set_option maxRecDepth 20000 in theorem iGraphDeltasLaw_law_428 : ai_find (ai_tab mGraphDeltasLaw_law) 428 = some (.aload_n 0, 429, 0, 0, 0, .null, []) := rfl
set_option maxRecDepth 20000 in theorem iGraphDeltasLaw_law_429 : ai_find (ai_tab mGraphDeltasLaw_law) 429 = some (.iload_n 3, 430, 3, 0, 0, .null, []) := rfl
set_option maxRecDepth 20000 in theorem iGraphDeltasLaw_law_430 : ai_find (ai_tab mGraphDeltasLaw_law) 430 = some (.iconst 2, 431, 0, 0, 0, .int (nI 2), []) := rfl
set_option maxRecDepth 20000 in theorem iGraphDeltasLaw_law_431 : ai_find (ai_tab mGraphDeltasLaw_law) 431 = some (.iadd, 432, 0, 0, 0, .null, []) := rfl
set_option maxRecDepth 20000 in theorem iGraphDeltasLaw_law_432 : ai_find (ai_tab mGraphDeltasLaw_law) 432 = some (.iaload, 433, 0, 0, 0, .null, []) := rfl
set_option maxRecDepth 20000 in theorem iGraphDeltasLaw_law_433 : ai_find (ai_tab mGraphDeltasLaw_law) 433 = some (.invokevirtual 56, 436, 19, 3, 1, .ref 0, []) := rfl
set_option maxRecDepth 20000 in theorem iGraphDeltasLaw_law_436 : ai_find (ai_tab mGraphDeltasLaw_law) 436 = some (.aload_n 2, 437, 2, 0, 0, .null, []) := rfl
set_option maxRecDepth 20000 in theorem iGraphDeltasLaw_law_437 : ai_find (ai_tab mGraphDeltasLaw_law) 437 = some (.aload_n 0, 438, 0, 0, 0, .null, []) := rfl
set_option maxRecDepth 20000 in theorem iGraphDeltasLaw_law_438 : ai_find (ai_tab mGraphDeltasLaw_law) 438 = some (.iload_n 3, 439, 3, 0, 0, .null, []) := rfl
set_option maxRecDepth 20000 in theorem iGraphDeltasLaw_law_439 : ai_find (ai_tab mGraphDeltasLaw_law) 439 = some (.iconst 1, 440, 0, 0, 0, .int (nI 1), []) := rfl
set_option maxRecDepth 20000 in theorem iGraphDeltasLaw_law_440 : ai_find (ai_tab mGraphDeltasLaw_law) 440 = some (.iadd, 441, 0, 0, 0, .null, []) := rfl
set_option maxRecDepth 20000 in theorem iGraphDeltasLaw_law_441 : ai_find (ai_tab mGraphDeltasLaw_law) 441 = some (.iaload, 442, 0, 0, 0, .null, []) := rfl
set_option maxRecDepth 20000 in theorem iGraphDeltasLaw_law_442 : ai_find (ai_tab mGraphDeltasLaw_law) 442 = some (.aload_n 0, 443, 0, 0, 0, .null, []) := rfl
set_option maxRecDepth 20000 in theorem iGraphDeltasLaw_law_443 : ai_find (ai_tab mGraphDeltasLaw_law) 443 = some (.iload_n 3, 444, 3, 0, 0, .null, []) := rfl
set_option maxRecDepth 20000 in theorem iGraphDeltasLaw_law_444 : ai_find (ai_tab mGraphDeltasLaw_law) 444 = some (.iconst 2, 445, 0, 0, 0, .int (nI 2), []) := rfl
set_option maxRecDepth 20000 in theorem iGraphDeltasLaw_law_445 : ai_find (ai_tab mGraphDeltasLaw_law) 445 = some (.iadd, 446, 0, 0, 0, .null, []) := rfl
set_option maxRecDepth 20000 in theorem iGraphDeltasLaw_law_446 : ai_find (ai_tab mGraphDeltasLaw_law) 446 = some (.iaload, 447, 0, 0, 0, .null, []) := rfl
set_option maxRecDepth 20000 in theorem iGraphDeltasLaw_law_447 : ai_find (ai_tab mGraphDeltasLaw_law) 447 = some (.invokevirtual 59, 450, 166, 3, 1, .ref 7, []) := rfl
set_option maxRecDepth 20000 in theorem iGraphDeltasLaw_law_450 : ai_find (ai_tab mGraphDeltasLaw_law) 450 = some (.if_icmp .eq 256, 453, 706, 0, 0, .null, []) := rfl
set_option maxRecDepth 20000 in theorem iGraphDeltasLaw_law_453 : ai_find (ai_tab mGraphDeltasLaw_law) 453 = some (.iconst 0, 454, 0, 0, 0, .int (nI 0), []) := rfl
set_option maxRecDepth 20000 in theorem iGraphDeltasLaw_law_454 : ai_find (ai_tab mGraphDeltasLaw_law) 454 = some (.ireturn, 455, 1, 0, 0, .null, []) := rfl
set_option maxRecDepth 20000 in theorem iGraphDeltasLaw_law_455 : ai_find (ai_tab mGraphDeltasLaw_law) 455 = some (.aload_n 1, 456, 1, 0, 0, .null, []) := rfl
set_option maxRecDepth 20000 in theorem iGraphDeltasLaw_law_456 : ai_find (ai_tab mGraphDeltasLaw_law) 456 = some (.aload_n 0, 457, 0, 0, 0, .null, []) := rfl
set_option maxRecDepth 20000 in theorem iGraphDeltasLaw_law_457 : ai_find (ai_tab mGraphDeltasLaw_law) 457 = some (.iload_n 3, 458, 3, 0, 0, .null, []) := rfl
set_option maxRecDepth 20000 in theorem iGraphDeltasLaw_law_458 : ai_find (ai_tab mGraphDeltasLaw_law) 458 = some (.iconst 1, 459, 0, 0, 0, .int (nI 1), []) := rfl
set_option maxRecDepth 20000 in theorem iGraphDeltasLaw_law_459 : ai_find (ai_tab mGraphDeltasLaw_law) 459 = some (.iadd, 460, 0, 0, 0, .null, []) := rfl
set_option maxRecDepth 20000 in theorem iGraphDeltasLaw_law_460 : ai_find (ai_tab mGraphDeltasLaw_law) 460 = some (.iaload, 461, 0, 0, 0, .null, []) := rfl
set_option maxRecDepth 20000 in theorem iGraphDeltasLaw_law_461 : ai_find (ai_tab mGraphDeltasLaw_law) 461 = some (.aload_n 0, 462, 0, 0, 0, .null, []) := rfl
set_option maxRecDepth 20000 in theorem iGraphDeltasLaw_law_462 : ai_find (ai_tab mGraphDeltasLaw_law) 462 = some (.iload_n 3, 463, 3, 0, 0, .null, []) := rfl
set_option maxRecDepth 20000 in theorem iGraphDeltasLaw_law_463 : ai_find (ai_tab mGraphDeltasLaw_law) 463 = some (.iconst 2, 464, 0, 0, 0, .int (nI 2), []) := rfl
set_option maxRecDepth 20000 in theorem iGraphDeltasLaw_law_464 : ai_find (ai_tab mGraphDeltasLaw_law) 464 = some (.iadd, 465, 0, 0, 0, .null, []) := rfl
set_option maxRecDepth 20000 in theorem iGraphDeltasLaw_law_465 : ai_find (ai_tab mGraphDeltasLaw_law) 465 = some (.iaload, 466, 0, 0, 0, .null, []) := rfl
set_option maxRecDepth 20000 in theorem iGraphDeltasLaw_law_466 : ai_find (ai_tab mGraphDeltasLaw_law) 466 = some (.invokevirtual 60, 469, 6, 3, 1, .ref 0, []) := rfl
set_option maxRecDepth 20000 in theorem iGraphDeltasLaw_law_469 : ai_find (ai_tab mGraphDeltasLaw_law) 469 = some (.aload_n 2, 470, 2, 0, 0, .null, []) := rfl
set_option maxRecDepth 20000 in theorem iGraphDeltasLaw_law_470 : ai_find (ai_tab mGraphDeltasLaw_law) 470 = some (.aload_n 0, 471, 0, 0, 0, .null, []) := rfl
set_option maxRecDepth 20000 in theorem iGraphDeltasLaw_law_471 : ai_find (ai_tab mGraphDeltasLaw_law) 471 = some (.iload_n 3, 472, 3, 0, 0, .null, []) := rfl
set_option maxRecDepth 20000 in theorem iGraphDeltasLaw_law_472 : ai_find (ai_tab mGraphDeltasLaw_law) 472 = some (.iconst 1, 473, 0, 0, 0, .int (nI 1), []) := rfl
set_option maxRecDepth 20000 in theorem iGraphDeltasLaw_law_473 : ai_find (ai_tab mGraphDeltasLaw_law) 473 = some (.iadd, 474, 0, 0, 0, .null, []) := rfl
set_option maxRecDepth 20000 in theorem iGraphDeltasLaw_law_474 : ai_find (ai_tab mGraphDeltasLaw_law) 474 = some (.iaload, 475, 0, 0, 0, .null, []) := rfl
set_option maxRecDepth 20000 in theorem iGraphDeltasLaw_law_475 : ai_find (ai_tab mGraphDeltasLaw_law) 475 = some (.aload_n 0, 476, 0, 0, 0, .null, []) := rfl
set_option maxRecDepth 20000 in theorem iGraphDeltasLaw_law_476 : ai_find (ai_tab mGraphDeltasLaw_law) 476 = some (.iload_n 3, 477, 3, 0, 0, .null, []) := rfl
set_option maxRecDepth 20000 in theorem iGraphDeltasLaw_law_477 : ai_find (ai_tab mGraphDeltasLaw_law) 477 = some (.iconst 2, 478, 0, 0, 0, .int (nI 2), []) := rfl
set_option maxRecDepth 20000 in theorem iGraphDeltasLaw_law_478 : ai_find (ai_tab mGraphDeltasLaw_law) 478 = some (.iadd, 479, 0, 0, 0, .null, []) := rfl
set_option maxRecDepth 20000 in theorem iGraphDeltasLaw_law_479 : ai_find (ai_tab mGraphDeltasLaw_law) 479 = some (.iaload, 480, 0, 0, 0, .null, []) := rfl
set_option maxRecDepth 20000 in theorem iGraphDeltasLaw_law_480 : ai_find (ai_tab mGraphDeltasLaw_law) 480 = some (.invokevirtual 64, 483, 132, 3, 1, .ref 7, []) := rfl
set_option maxRecDepth 20000 in theorem iGraphDeltasLaw_law_483 : ai_find (ai_tab mGraphDeltasLaw_law) 483 = some (.if_icmp .eq 223, 486, 706, 0, 0, .null, []) := rfl
set_option maxRecDepth 20000 in theorem iGraphDeltasLaw_law_486 : ai_find (ai_tab mGraphDeltasLaw_law) 486 = some (.iconst 0, 487, 0, 0, 0, .int (nI 0), []) := rfl
set_option maxRecDepth 20000 in theorem iGraphDeltasLaw_law_487 : ai_find (ai_tab mGraphDeltasLaw_law) 487 = some (.ireturn, 488, 1, 0, 0, .null, []) := rfl
set_option maxRecDepth 20000 in theorem iGraphDeltasLaw_law_488 : ai_find (ai_tab mGraphDeltasLaw_law) 488 = some (.aload_n 1, 489, 1, 0, 0, .null, []) := rfl
set_option maxRecDepth 20000 in theorem iGraphDeltasLaw_law_489 : ai_find (ai_tab mGraphDeltasLaw_law) 489 = some (.aload_n 0, 490, 0, 0, 0, .null, []) := rfl
set_option maxRecDepth 20000 in theorem iGraphDeltasLaw_law_490 : ai_find (ai_tab mGraphDeltasLaw_law) 490 = some (.iload_n 3, 491, 3, 0, 0, .null, []) := rfl
set_option maxRecDepth 20000 in theorem iGraphDeltasLaw_law_491 : ai_find (ai_tab mGraphDeltasLaw_law) 491 = some (.iconst 1, 492, 0, 0, 0, .int (nI 1), []) := rfl
set_option maxRecDepth 20000 in theorem iGraphDeltasLaw_law_492 : ai_find (ai_tab mGraphDeltasLaw_law) 492 = some (.iadd, 493, 0, 0, 0, .null, []) := rfl
set_option maxRecDepth 20000 in theorem iGraphDeltasLaw_law_493 : ai_find (ai_tab mGraphDeltasLaw_law) 493 = some (.iaload, 494, 0, 0, 0, .null, []) := rfl
set_option maxRecDepth 20000 in theorem iGraphDeltasLaw_law_494 : ai_find (ai_tab mGraphDeltasLaw_law) 494 = some (.aload_n 0, 495, 0, 0, 0, .null, []) := rfl
set_option maxRecDepth 20000 in theorem iGraphDeltasLaw_law_495 : ai_find (ai_tab mGraphDeltasLaw_law) 495 = some (.iload_n 3, 496, 3, 0, 0, .null, []) := rfl
set_option maxRecDepth 20000 in theorem iGraphDeltasLaw_law_496 : ai_find (ai_tab mGraphDeltasLaw_law) 496 = some (.iconst 2, 497, 0, 0, 0, .int (nI 2), []) := rfl
set_option maxRecDepth 20000 in theorem iGraphDeltasLaw_law_497 : ai_find (ai_tab mGraphDeltasLaw_law) 497 = some (.iadd, 498, 0, 0, 0, .null, []) := rfl
set_option maxRecDepth 20000 in theorem iGraphDeltasLaw_law_498 : ai_find (ai_tab mGraphDeltasLaw_law) 498 = some (.iaload, 499, 0, 0, 0, .null, []) := rfl
set_option maxRecDepth 20000 in theorem iGraphDeltasLaw_law_499 : ai_find (ai_tab mGraphDeltasLaw_law) 499 = some (.aload_n 0, 500, 0, 0, 0, .null, []) := rfl
set_option maxRecDepth 20000 in theorem iGraphDeltasLaw_law_500 : ai_find (ai_tab mGraphDeltasLaw_law) 500 = some (.iload_n 3, 501, 3, 0, 0, .null, []) := rfl
set_option maxRecDepth 20000 in theorem iGraphDeltasLaw_law_501 : ai_find (ai_tab mGraphDeltasLaw_law) 501 = some (.iconst 3, 502, 0, 0, 0, .int (nI 3), []) := rfl
set_option maxRecDepth 20000 in theorem iGraphDeltasLaw_law_502 : ai_find (ai_tab mGraphDeltasLaw_law) 502 = some (.iadd, 503, 0, 0, 0, .null, []) := rfl
set_option maxRecDepth 20000 in theorem iGraphDeltasLaw_law_503 : ai_find (ai_tab mGraphDeltasLaw_law) 503 = some (.iaload, 504, 0, 0, 0, .null, []) := rfl
set_option maxRecDepth 20000 in theorem iGraphDeltasLaw_law_504 : ai_find (ai_tab mGraphDeltasLaw_law) 504 = some (.invokevirtual 65, 507, 13, 4, 1, .ref 0, []) := rfl
set_option maxRecDepth 20000 in theorem iGraphDeltasLaw_law_507 : ai_find (ai_tab mGraphDeltasLaw_law) 507 = some (.aload_n 2, 508, 2, 0, 0, .null, []) := rfl
set_option maxRecDepth 20000 in theorem iGraphDeltasLaw_law_508 : ai_find (ai_tab mGraphDeltasLaw_law) 508 = some (.aload_n 0, 509, 0, 0, 0, .null, []) := rfl
set_option maxRecDepth 20000 in theorem iGraphDeltasLaw_law_509 : ai_find (ai_tab mGraphDeltasLaw_law) 509 = some (.iload_n 3, 510, 3, 0, 0, .null, []) := rfl
set_option maxRecDepth 20000 in theorem iGraphDeltasLaw_law_510 : ai_find (ai_tab mGraphDeltasLaw_law) 510 = some (.iconst 1, 511, 0, 0, 0, .int (nI 1), []) := rfl
set_option maxRecDepth 20000 in theorem iGraphDeltasLaw_law_511 : ai_find (ai_tab mGraphDeltasLaw_law) 511 = some (.iadd, 512, 0, 0, 0, .null, []) := rfl
set_option maxRecDepth 20000 in theorem iGraphDeltasLaw_law_512 : ai_find (ai_tab mGraphDeltasLaw_law) 512 = some (.iaload, 513, 0, 0, 0, .null, []) := rfl
set_option maxRecDepth 20000 in theorem iGraphDeltasLaw_law_513 : ai_find (ai_tab mGraphDeltasLaw_law) 513 = some (.aload_n 0, 514, 0, 0, 0, .null, []) := rfl
set_option maxRecDepth 20000 in theorem iGraphDeltasLaw_law_514 : ai_find (ai_tab mGraphDeltasLaw_law) 514 = some (.iload_n 3, 515, 3, 0, 0, .null, []) := rfl
set_option maxRecDepth 20000 in theorem iGraphDeltasLaw_law_515 : ai_find (ai_tab mGraphDeltasLaw_law) 515 = some (.iconst 2, 516, 0, 0, 0, .int (nI 2), []) := rfl
set_option maxRecDepth 20000 in theorem iGraphDeltasLaw_law_516 : ai_find (ai_tab mGraphDeltasLaw_law) 516 = some (.iadd, 517, 0, 0, 0, .null, []) := rfl
set_option maxRecDepth 20000 in theorem iGraphDeltasLaw_law_517 : ai_find (ai_tab mGraphDeltasLaw_law) 517 = some (.iaload, 518, 0, 0, 0, .null, []) := rfl
set_option maxRecDepth 20000 in theorem iGraphDeltasLaw_law_518 : ai_find (ai_tab mGraphDeltasLaw_law) 518 = some (.aload_n 0, 519, 0, 0, 0, .null, []) := rfl
set_option maxRecDepth 20000 in theorem iGraphDeltasLaw_law_519 : ai_find (ai_tab mGraphDeltasLaw_law) 519 = some (.iload_n 3, 520, 3, 0, 0, .null, []) := rfl
set_option maxRecDepth 20000 in theorem iGraphDeltasLaw_law_520 : ai_find (ai_tab mGraphDeltasLaw_law) 520 = some (.iconst 3, 521, 0, 0, 0, .int (nI 3), []) := rfl
set_option maxRecDepth 20000 in theorem iGraphDeltasLaw_law_521 : ai_find (ai_tab mGraphDeltasLaw_law) 521 = some (.iadd, 522, 0, 0, 0, .null, []) := rfl
set_option maxRecDepth 20000 in theorem iGraphDeltasLaw_law_522 : ai_find (ai_tab mGraphDeltasLaw_law) 522 = some (.iaload, 523, 0, 0, 0, .null, []) := rfl
set_option maxRecDepth 20000 in theorem iGraphDeltasLaw_law_523 : ai_find (ai_tab mGraphDeltasLaw_law) 523 = some (.invokevirtual 69, 526, 152, 4, 1, .ref 7, []) := rfl
set_option maxRecDepth 20000 in theorem iGraphDeltasLaw_law_526 : ai_find (ai_tab mGraphDeltasLaw_law) 526 = some (.if_icmp .eq 180, 529, 706, 0, 0, .null, []) := rfl
set_option maxRecDepth 20000 in theorem iGraphDeltasLaw_law_529 : ai_find (ai_tab mGraphDeltasLaw_law) 529 = some (.iconst 0, 530, 0, 0, 0, .int (nI 0), []) := rfl
set_option maxRecDepth 20000 in theorem iGraphDeltasLaw_law_530 : ai_find (ai_tab mGraphDeltasLaw_law) 530 = some (.ireturn, 531, 1, 0, 0, .null, []) := rfl
set_option maxRecDepth 20000 in theorem iGraphDeltasLaw_law_531 : ai_find (ai_tab mGraphDeltasLaw_law) 531 = some (.aload_n 1, 532, 1, 0, 0, .null, []) := rfl
set_option maxRecDepth 20000 in theorem iGraphDeltasLaw_law_532 : ai_find (ai_tab mGraphDeltasLaw_law) 532 = some (.aload_n 0, 533, 0, 0, 0, .null, []) := rfl
set_option maxRecDepth 20000 in theorem iGraphDeltasLaw_law_533 : ai_find (ai_tab mGraphDeltasLaw_law) 533 = some (.iload_n 3, 534, 3, 0, 0, .null, []) := rfl
set_option maxRecDepth 20000 in theorem iGraphDeltasLaw_law_534 : ai_find (ai_tab mGraphDeltasLaw_law) 534 = some (.iconst 1, 535, 0, 0, 0, .int (nI 1), []) := rfl
set_option maxRecDepth 20000 in theorem iGraphDeltasLaw_law_535 : ai_find (ai_tab mGraphDeltasLaw_law) 535 = some (.iadd, 536, 0, 0, 0, .null, []) := rfl
set_option maxRecDepth 20000 in theorem iGraphDeltasLaw_law_536 : ai_find (ai_tab mGraphDeltasLaw_law) 536 = some (.iaload, 537, 0, 0, 0, .null, []) := rfl
set_option maxRecDepth 20000 in theorem iGraphDeltasLaw_law_537 : ai_find (ai_tab mGraphDeltasLaw_law) 537 = some (.invokevirtual 70, 540, 3, 2, 1, .ref 0, []) := rfl
set_option maxRecDepth 20000 in theorem iGraphDeltasLaw_law_540 : ai_find (ai_tab mGraphDeltasLaw_law) 540 = some (.aload_n 2, 541, 2, 0, 0, .null, []) := rfl
set_option maxRecDepth 20000 in theorem iGraphDeltasLaw_law_541 : ai_find (ai_tab mGraphDeltasLaw_law) 541 = some (.aload_n 0, 542, 0, 0, 0, .null, []) := rfl
set_option maxRecDepth 20000 in theorem iGraphDeltasLaw_law_542 : ai_find (ai_tab mGraphDeltasLaw_law) 542 = some (.iload_n 3, 543, 3, 0, 0, .null, []) := rfl
set_option maxRecDepth 20000 in theorem iGraphDeltasLaw_law_543 : ai_find (ai_tab mGraphDeltasLaw_law) 543 = some (.iconst 1, 544, 0, 0, 0, .int (nI 1), []) := rfl
set_option maxRecDepth 20000 in theorem iGraphDeltasLaw_law_544 : ai_find (ai_tab mGraphDeltasLaw_law) 544 = some (.iadd, 545, 0, 0, 0, .null, []) := rfl
set_option maxRecDepth 20000 in theorem iGraphDeltasLaw_law_545 : ai_find (ai_tab mGraphDeltasLaw_law) 545 = some (.iaload, 546, 0, 0, 0, .null, []) := rfl
set_option maxRecDepth 20000 in theorem iGraphDeltasLaw_law_546 : ai_find (ai_tab mGraphDeltasLaw_law) 546 = some (.invokevirtual 73, 549, 127, 2, 1, .ref 7, []) := rfl
set_option maxRecDepth 20000 in theorem iGraphDeltasLaw_law_549 : ai_find (ai_tab mGraphDeltasLaw_law) 549 = some (.if_icmp .eq 157, 552, 706, 0, 0, .null, []) := rfl
set_option maxRecDepth 20000 in theorem iGraphDeltasLaw_law_552 : ai_find (ai_tab mGraphDeltasLaw_law) 552 = some (.iconst 0, 553, 0, 0, 0, .int (nI 0), []) := rfl
set_option maxRecDepth 20000 in theorem iGraphDeltasLaw_law_553 : ai_find (ai_tab mGraphDeltasLaw_law) 553 = some (.ireturn, 554, 1, 0, 0, .null, []) := rfl
set_option maxRecDepth 20000 in theorem iGraphDeltasLaw_law_554 : ai_find (ai_tab mGraphDeltasLaw_law) 554 = some (.aload_n 1, 555, 1, 0, 0, .null, []) := rfl
set_option maxRecDepth 20000 in theorem iGraphDeltasLaw_law_555 : ai_find (ai_tab mGraphDeltasLaw_law) 555 = some (.aload_n 0, 556, 0, 0, 0, .null, []) := rfl
set_option maxRecDepth 20000 in theorem iGraphDeltasLaw_law_556 : ai_find (ai_tab mGraphDeltasLaw_law) 556 = some (.iload_n 3, 557, 3, 0, 0, .null, []) := rfl
set_option maxRecDepth 20000 in theorem iGraphDeltasLaw_law_557 : ai_find (ai_tab mGraphDeltasLaw_law) 557 = some (.iconst 1, 558, 0, 0, 0, .int (nI 1), []) := rfl
set_option maxRecDepth 20000 in theorem iGraphDeltasLaw_law_558 : ai_find (ai_tab mGraphDeltasLaw_law) 558 = some (.iadd, 559, 0, 0, 0, .null, []) := rfl
set_option maxRecDepth 20000 in theorem iGraphDeltasLaw_law_559 : ai_find (ai_tab mGraphDeltasLaw_law) 559 = some (.iaload, 560, 0, 0, 0, .null, []) := rfl
set_option maxRecDepth 20000 in theorem iGraphDeltasLaw_law_560 : ai_find (ai_tab mGraphDeltasLaw_law) 560 = some (.aload_n 0, 561, 0, 0, 0, .null, []) := rfl
set_option maxRecDepth 20000 in theorem iGraphDeltasLaw_law_561 : ai_find (ai_tab mGraphDeltasLaw_law) 561 = some (.iload_n 3, 562, 3, 0, 0, .null, []) := rfl
set_option maxRecDepth 20000 in theorem iGraphDeltasLaw_law_562 : ai_find (ai_tab mGraphDeltasLaw_law) 562 = some (.iconst 2, 563, 0, 0, 0, .int (nI 2), []) := rfl
set_option maxRecDepth 20000 in theorem iGraphDeltasLaw_law_563 : ai_find (ai_tab mGraphDeltasLaw_law) 563 = some (.iadd, 564, 0, 0, 0, .null, []) := rfl
set_option maxRecDepth 20000 in theorem iGraphDeltasLaw_law_564 : ai_find (ai_tab mGraphDeltasLaw_law) 564 = some (.iaload, 565, 0, 0, 0, .null, []) := rfl
set_option maxRecDepth 20000 in theorem iGraphDeltasLaw_law_565 : ai_find (ai_tab mGraphDeltasLaw_law) 565 = some (.invokevirtual 74, 568, 15, 3, 1, .ref 0, []) := rfl
set_option maxRecDepth 20000 in theorem iGraphDeltasLaw_law_568 : ai_find (ai_tab mGraphDeltasLaw_law) 568 = some (.aload_n 2, 569, 2, 0, 0, .null, []) := rfl
set_option maxRecDepth 20000 in theorem iGraphDeltasLaw_law_569 : ai_find (ai_tab mGraphDeltasLaw_law) 569 = some (.aload_n 0, 570, 0, 0, 0, .null, []) := rfl
set_option maxRecDepth 20000 in theorem iGraphDeltasLaw_law_570 : ai_find (ai_tab mGraphDeltasLaw_law) 570 = some (.iload_n 3, 571, 3, 0, 0, .null, []) := rfl
set_option maxRecDepth 20000 in theorem iGraphDeltasLaw_law_571 : ai_find (ai_tab mGraphDeltasLaw_law) 571 = some (.iconst 1, 572, 0, 0, 0, .int (nI 1), []) := rfl
set_option maxRecDepth 20000 in theorem iGraphDeltasLaw_law_572 : ai_find (ai_tab mGraphDeltasLaw_law) 572 = some (.iadd, 573, 0, 0, 0, .null, []) := rfl
set_option maxRecDepth 20000 in theorem iGraphDeltasLaw_law_573 : ai_find (ai_tab mGraphDeltasLaw_law) 573 = some (.iaload, 574, 0, 0, 0, .null, []) := rfl
set_option maxRecDepth 20000 in theorem iGraphDeltasLaw_law_574 : ai_find (ai_tab mGraphDeltasLaw_law) 574 = some (.aload_n 0, 575, 0, 0, 0, .null, []) := rfl
set_option maxRecDepth 20000 in theorem iGraphDeltasLaw_law_575 : ai_find (ai_tab mGraphDeltasLaw_law) 575 = some (.iload_n 3, 576, 3, 0, 0, .null, []) := rfl
set_option maxRecDepth 20000 in theorem iGraphDeltasLaw_law_576 : ai_find (ai_tab mGraphDeltasLaw_law) 576 = some (.iconst 2, 577, 0, 0, 0, .int (nI 2), []) := rfl
set_option maxRecDepth 20000 in theorem iGraphDeltasLaw_law_577 : ai_find (ai_tab mGraphDeltasLaw_law) 577 = some (.iadd, 578, 0, 0, 0, .null, []) := rfl
set_option maxRecDepth 20000 in theorem iGraphDeltasLaw_law_578 : ai_find (ai_tab mGraphDeltasLaw_law) 578 = some (.iaload, 579, 0, 0, 0, .null, []) := rfl
set_option maxRecDepth 20000 in theorem iGraphDeltasLaw_law_579 : ai_find (ai_tab mGraphDeltasLaw_law) 579 = some (.invokevirtual 77, 582, 156, 3, 1, .ref 7, []) := rfl
set_option maxRecDepth 20000 in theorem iGraphDeltasLaw_law_582 : ai_find (ai_tab mGraphDeltasLaw_law) 582 = some (.lcmp, 583, 0, 0, 0, .null, []) := rfl
set_option maxRecDepth 20000 in theorem iGraphDeltasLaw_law_583 : ai_find (ai_tab mGraphDeltasLaw_law) 583 = some (.ifCond .eq 123, 586, 706, 0, 0, .null, []) := rfl
set_option maxRecDepth 20000 in theorem iGraphDeltasLaw_law_586 : ai_find (ai_tab mGraphDeltasLaw_law) 586 = some (.iconst 0, 587, 0, 0, 0, .int (nI 0), []) := rfl
set_option maxRecDepth 20000 in theorem iGraphDeltasLaw_law_587 : ai_find (ai_tab mGraphDeltasLaw_law) 587 = some (.ireturn, 588, 1, 0, 0, .null, []) := rfl
set_option maxRecDepth 20000 in theorem iGraphDeltasLaw_law_588 : ai_find (ai_tab mGraphDeltasLaw_law) 588 = some (.aload_n 1, 589, 1, 0, 0, .null, []) := rfl
set_option maxRecDepth 20000 in theorem iGraphDeltasLaw_law_589 : ai_find (ai_tab mGraphDeltasLaw_law) 589 = some (.aload_n 0, 590, 0, 0, 0, .null, []) := rfl
set_option maxRecDepth 20000 in theorem iGraphDeltasLaw_law_590 : ai_find (ai_tab mGraphDeltasLaw_law) 590 = some (.iload_n 3, 591, 3, 0, 0, .null, []) := rfl
set_option maxRecDepth 20000 in theorem iGraphDeltasLaw_law_591 : ai_find (ai_tab mGraphDeltasLaw_law) 591 = some (.iconst 1, 592, 0, 0, 0, .int (nI 1), []) := rfl
set_option maxRecDepth 20000 in theorem iGraphDeltasLaw_law_592 : ai_find (ai_tab mGraphDeltasLaw_law) 592 = some (.iadd, 593, 0, 0, 0, .null, []) := rfl
set_option maxRecDepth 20000 in theorem iGraphDeltasLaw_law_593 : ai_find (ai_tab mGraphDeltasLaw_law) 593 = some (.iaload, 594, 0, 0, 0, .null, []) := rfl
set_option maxRecDepth 20000 in theorem iGraphDeltasLaw_law_594 : ai_find (ai_tab mGraphDeltasLaw_law) 594 = some (.invokevirtual 78, 597, 1, 2, 1, .ref 0, []) := rfl
set_option maxRecDepth 20000 in theorem iGraphDeltasLaw_law_597 : ai_find (ai_tab mGraphDeltasLaw_law) 597 = some (.aload_n 2, 598, 2, 0, 0, .null, []) := rfl
set_option maxRecDepth 20000 in theorem iGraphDeltasLaw_law_598 : ai_find (ai_tab mGraphDeltasLaw_law) 598 = some (.aload_n 0, 599, 0, 0, 0, .null, []) := rfl
set_option maxRecDepth 20000 in theorem iGraphDeltasLaw_law_599 : ai_find (ai_tab mGraphDeltasLaw_law) 599 = some (.iload_n 3, 600, 3, 0, 0, .null, []) := rfl
set_option maxRecDepth 20000 in theorem iGraphDeltasLaw_law_600 : ai_find (ai_tab mGraphDeltasLaw_law) 600 = some (.iconst 1, 601, 0, 0, 0, .int (nI 1), []) := rfl
set_option maxRecDepth 20000 in theorem iGraphDeltasLaw_law_601 : ai_find (ai_tab mGraphDeltasLaw_law) 601 = some (.iadd, 602, 0, 0, 0, .null, []) := rfl
set_option maxRecDepth 20000 in theorem iGraphDeltasLaw_law_602 : ai_find (ai_tab mGraphDeltasLaw_law) 602 = some (.iaload, 603, 0, 0, 0, .null, []) := rfl
set_option maxRecDepth 20000 in theorem iGraphDeltasLaw_law_603 : ai_find (ai_tab mGraphDeltasLaw_law) 603 = some (.invokevirtual 81, 606, 122, 2, 1, .ref 7, []) := rfl
set_option maxRecDepth 20000 in theorem iGraphDeltasLaw_law_606 : ai_find (ai_tab mGraphDeltasLaw_law) 606 = some (.if_icmp .eq 100, 609, 706, 0, 0, .null, []) := rfl
set_option maxRecDepth 20000 in theorem iGraphDeltasLaw_law_609 : ai_find (ai_tab mGraphDeltasLaw_law) 609 = some (.iconst 0, 610, 0, 0, 0, .int (nI 0), []) := rfl
set_option maxRecDepth 20000 in theorem iGraphDeltasLaw_law_610 : ai_find (ai_tab mGraphDeltasLaw_law) 610 = some (.ireturn, 611, 1, 0, 0, .null, []) := rfl
set_option maxRecDepth 20000 in theorem iGraphDeltasLaw_law_611 : ai_find (ai_tab mGraphDeltasLaw_law) 611 = some (.aload_n 1, 612, 1, 0, 0, .null, []) := rfl
set_option maxRecDepth 20000 in theorem iGraphDeltasLaw_law_612 : ai_find (ai_tab mGraphDeltasLaw_law) 612 = some (.invokevirtual 82, 615, 7, 1, 1, .ref 0, []) := rfl
set_option maxRecDepth 20000 in theorem iGraphDeltasLaw_law_615 : ai_find (ai_tab mGraphDeltasLaw_law) 615 = some (.aload_n 2, 616, 2, 0, 0, .null, []) := rfl
set_option maxRecDepth 20000 in theorem iGraphDeltasLaw_law_616 : ai_find (ai_tab mGraphDeltasLaw_law) 616 = some (.invokevirtual 85, 619, 135, 1, 1, .ref 7, []) := rfl
set_option maxRecDepth 20000 in theorem iGraphDeltasLaw_law_619 : ai_find (ai_tab mGraphDeltasLaw_law) 619 = some (.if_icmp .eq 87, 622, 706, 0, 0, .null, []) := rfl
set_option maxRecDepth 20000 in theorem iGraphDeltasLaw_law_622 : ai_find (ai_tab mGraphDeltasLaw_law) 622 = some (.iconst 0, 623, 0, 0, 0, .int (nI 0), []) := rfl
set_option maxRecDepth 20000 in theorem iGraphDeltasLaw_law_623 : ai_find (ai_tab mGraphDeltasLaw_law) 623 = some (.ireturn, 624, 1, 0, 0, .null, []) := rfl
set_option maxRecDepth 20000 in theorem iGraphDeltasLaw_law_624 : ai_find (ai_tab mGraphDeltasLaw_law) 624 = some (.aload_n 1, 625, 1, 0, 0, .null, []) := rfl
set_option maxRecDepth 20000 in theorem iGraphDeltasLaw_law_625 : ai_find (ai_tab mGraphDeltasLaw_law) 625 = some (.aload_n 0, 626, 0, 0, 0, .null, []) := rfl
set_option maxRecDepth 20000 in theorem iGraphDeltasLaw_law_626 : ai_find (ai_tab mGraphDeltasLaw_law) 626 = some (.iload_n 3, 627, 3, 0, 0, .null, []) := rfl
set_option maxRecDepth 20000 in theorem iGraphDeltasLaw_law_627 : ai_find (ai_tab mGraphDeltasLaw_law) 627 = some (.iconst 1, 628, 0, 0, 0, .int (nI 1), []) := rfl
set_option maxRecDepth 20000 in theorem iGraphDeltasLaw_law_628 : ai_find (ai_tab mGraphDeltasLaw_law) 628 = some (.iadd, 629, 0, 0, 0, .null, []) := rfl
set_option maxRecDepth 20000 in theorem iGraphDeltasLaw_law_629 : ai_find (ai_tab mGraphDeltasLaw_law) 629 = some (.iaload, 630, 0, 0, 0, .null, []) := rfl
set_option maxRecDepth 20000 in theorem iGraphDeltasLaw_law_630 : ai_find (ai_tab mGraphDeltasLaw_law) 630 = some (.invokevirtual 86, 633, 8, 2, 1, .ref 0, []) := rfl
set_option maxRecDepth 20000 in theorem iGraphDeltasLaw_law_633 : ai_find (ai_tab mGraphDeltasLaw_law) 633 = some (.aload_n 2, 634, 2, 0, 0, .null, []) := rfl
set_option maxRecDepth 20000 in theorem iGraphDeltasLaw_law_634 : ai_find (ai_tab mGraphDeltasLaw_law) 634 = some (.aload_n 0, 635, 0, 0, 0, .null, []) := rfl
set_option maxRecDepth 20000 in theorem iGraphDeltasLaw_law_635 : ai_find (ai_tab mGraphDeltasLaw_law) 635 = some (.iload_n 3, 636, 3, 0, 0, .null, []) := rfl
set_option maxRecDepth 20000 in theorem iGraphDeltasLaw_law_636 : ai_find (ai_tab mGraphDeltasLaw_law) 636 = some (.iconst 1, 637, 0, 0, 0, .int (nI 1), []) := rfl
set_option maxRecDepth 20000 in theorem iGraphDeltasLaw_law_637 : ai_find (ai_tab mGraphDeltasLaw_law) 637 = some (.iadd, 638, 0, 0, 0, .null, []) := rfl
set_option maxRecDepth 20000 in theorem iGraphDeltasLaw_law_638 : ai_find (ai_tab mGraphDeltasLaw_law) 638 = some (.iaload, 639, 0, 0, 0, .null, []) := rfl
set_option maxRecDepth 20000 in theorem iGraphDeltasLaw_law_639 : ai_find (ai_tab mGraphDeltasLaw_law) 639 = some (.invokevirtual 89, 642, 137, 2, 1, .ref 7, []) := rfl
set_option maxRecDepth 20000 in theorem iGraphDeltasLaw_law_642 : ai_find (ai_tab mGraphDeltasLaw_law) 642 = some (.if_icmp .eq 64, 645, 706, 0, 0, .null, []) := rfl
set_option maxRecDepth 20000 in theorem iGraphDeltasLaw_law_645 : ai_find (ai_tab mGraphDeltasLaw_law) 645 = some (.iconst 0, 646, 0, 0, 0, .int (nI 0), []) := rfl
set_option maxRecDepth 20000 in theorem iGraphDeltasLaw_law_646 : ai_find (ai_tab mGraphDeltasLaw_law) 646 = some (.ireturn, 647, 1, 0, 0, .null, []) := rfl
set_option maxRecDepth 20000 in theorem iGraphDeltasLaw_law_647 : ai_find (ai_tab mGraphDeltasLaw_law) 647 = some (.aload_n 1, 648, 1, 0, 0, .null, []) := rfl
set_option maxRecDepth 20000 in theorem iGraphDeltasLaw_law_648 : ai_find (ai_tab mGraphDeltasLaw_law) 648 = some (.aload_n 0, 649, 0, 0, 0, .null, []) := rfl
set_option maxRecDepth 20000 in theorem iGraphDeltasLaw_law_649 : ai_find (ai_tab mGraphDeltasLaw_law) 649 = some (.iload_n 3, 650, 3, 0, 0, .null, []) := rfl
set_option maxRecDepth 20000 in theorem iGraphDeltasLaw_law_650 : ai_find (ai_tab mGraphDeltasLaw_law) 650 = some (.iconst 1, 651, 0, 0, 0, .int (nI 1), []) := rfl
set_option maxRecDepth 20000 in theorem iGraphDeltasLaw_law_651 : ai_find (ai_tab mGraphDeltasLaw_law) 651 = some (.iadd, 652, 0, 0, 0, .null, []) := rfl
set_option maxRecDepth 20000 in theorem iGraphDeltasLaw_law_652 : ai_find (ai_tab mGraphDeltasLaw_law) 652 = some (.iaload, 653, 0, 0, 0, .null, []) := rfl
set_option maxRecDepth 20000 in theorem iGraphDeltasLaw_law_653 : ai_find (ai_tab mGraphDeltasLaw_law) 653 = some (.invokevirtual 90, 656, 4, 2, 1, .ref 0, []) := rfl
set_option maxRecDepth 20000 in theorem iGraphDeltasLaw_law_656 : ai_find (ai_tab mGraphDeltasLaw_law) 656 = some (.aload_n 2, 657, 2, 0, 0, .null, []) := rfl
set_option maxRecDepth 20000 in theorem iGraphDeltasLaw_law_657 : ai_find (ai_tab mGraphDeltasLaw_law) 657 = some (.aload_n 0, 658, 0, 0, 0, .null, []) := rfl
set_option maxRecDepth 20000 in theorem iGraphDeltasLaw_law_658 : ai_find (ai_tab mGraphDeltasLaw_law) 658 = some (.iload_n 3, 659, 3, 0, 0, .null, []) := rfl
set_option maxRecDepth 20000 in theorem iGraphDeltasLaw_law_659 : ai_find (ai_tab mGraphDeltasLaw_law) 659 = some (.iconst 1, 660, 0, 0, 0, .int (nI 1), []) := rfl
set_option maxRecDepth 20000 in theorem iGraphDeltasLaw_law_660 : ai_find (ai_tab mGraphDeltasLaw_law) 660 = some (.iadd, 661, 0, 0, 0, .null, []) := rfl
set_option maxRecDepth 20000 in theorem iGraphDeltasLaw_law_661 : ai_find (ai_tab mGraphDeltasLaw_law) 661 = some (.iaload, 662, 0, 0, 0, .null, []) := rfl
set_option maxRecDepth 20000 in theorem iGraphDeltasLaw_law_662 : ai_find (ai_tab mGraphDeltasLaw_law) 662 = some (.invokevirtual 93, 665, 130, 2, 1, .ref 7, []) := rfl
set_option maxRecDepth 20000 in theorem iGraphDeltasLaw_law_665 : ai_find (ai_tab mGraphDeltasLaw_law) 665 = some (.if_icmp .eq 41, 668, 706, 0, 0, .null, []) := rfl
set_option maxRecDepth 20000 in theorem iGraphDeltasLaw_law_668 : ai_find (ai_tab mGraphDeltasLaw_law) 668 = some (.iconst 0, 669, 0, 0, 0, .int (nI 0), []) := rfl
set_option maxRecDepth 20000 in theorem iGraphDeltasLaw_law_669 : ai_find (ai_tab mGraphDeltasLaw_law) 669 = some (.ireturn, 670, 1, 0, 0, .null, []) := rfl
set_option maxRecDepth 20000 in theorem iGraphDeltasLaw_law_670 : ai_find (ai_tab mGraphDeltasLaw_law) 670 = some (.aload_n 1, 671, 1, 0, 0, .null, []) := rfl
set_option maxRecDepth 20000 in theorem iGraphDeltasLaw_law_671 : ai_find (ai_tab mGraphDeltasLaw_law) 671 = some (.invokevirtual 94, 674, 5, 1, 1, .ref 0, []) := rfl
set_option maxRecDepth 20000 in theorem iGraphDeltasLaw_law_674 : ai_find (ai_tab mGraphDeltasLaw_law) 674 = some (.aload_n 2, 675, 2, 0, 0, .null, []) := rfl
set_option maxRecDepth 20000 in theorem iGraphDeltasLaw_law_675 : ai_find (ai_tab mGraphDeltasLaw_law) 675 = some (.invokevirtual 97, 678, 131, 1, 1, .ref 7, []) := rfl
set_option maxRecDepth 20000 in theorem iGraphDeltasLaw_law_678 : ai_find (ai_tab mGraphDeltasLaw_law) 678 = some (.if_icmp .eq 28, 681, 706, 0, 0, .null, []) := rfl
set_option maxRecDepth 20000 in theorem iGraphDeltasLaw_law_681 : ai_find (ai_tab mGraphDeltasLaw_law) 681 = some (.iconst 0, 682, 0, 0, 0, .int (nI 0), []) := rfl
set_option maxRecDepth 20000 in theorem iGraphDeltasLaw_law_682 : ai_find (ai_tab mGraphDeltasLaw_law) 682 = some (.ireturn, 683, 1, 0, 0, .null, []) := rfl
set_option maxRecDepth 20000 in theorem iGraphDeltasLaw_law_683 : ai_find (ai_tab mGraphDeltasLaw_law) 683 = some (.aload_n 1, 684, 1, 0, 0, .null, []) := rfl
set_option maxRecDepth 20000 in theorem iGraphDeltasLaw_law_684 : ai_find (ai_tab mGraphDeltasLaw_law) 684 = some (.aload_n 0, 685, 0, 0, 0, .null, []) := rfl
set_option maxRecDepth 20000 in theorem iGraphDeltasLaw_law_685 : ai_find (ai_tab mGraphDeltasLaw_law) 685 = some (.iload_n 3, 686, 3, 0, 0, .null, []) := rfl
set_option maxRecDepth 20000 in theorem iGraphDeltasLaw_law_686 : ai_find (ai_tab mGraphDeltasLaw_law) 686 = some (.iconst 1, 687, 0, 0, 0, .int (nI 1), []) := rfl
set_option maxRecDepth 20000 in theorem iGraphDeltasLaw_law_687 : ai_find (ai_tab mGraphDeltasLaw_law) 687 = some (.iadd, 688, 0, 0, 0, .null, []) := rfl
set_option maxRecDepth 20000 in theorem iGraphDeltasLaw_law_688 : ai_find (ai_tab mGraphDeltasLaw_law) 688 = some (.iaload, 689, 0, 0, 0, .null, []) := rfl
set_option maxRecDepth 20000 in theorem iGraphDeltasLaw_law_689 : ai_find (ai_tab mGraphDeltasLaw_law) 689 = some (.invokevirtual 98, 692, 2, 2, 1, .ref 0, []) := rfl
set_option maxRecDepth 20000 in theorem iGraphDeltasLaw_law_692 : ai_find (ai_tab mGraphDeltasLaw_law) 692 = some (.aload_n 2, 693, 2, 0, 0, .null, []) := rfl
set_option maxRecDepth 20000 in theorem iGraphDeltasLaw_law_693 : ai_find (ai_tab mGraphDeltasLaw_law) 693 = some (.aload_n 0, 694, 0, 0, 0, .null, []) := rfl
set_option maxRecDepth 20000 in theorem iGraphDeltasLaw_law_694 : ai_find (ai_tab mGraphDeltasLaw_law) 694 = some (.iload_n 3, 695, 3, 0, 0, .null, []) := rfl
set_option maxRecDepth 20000 in theorem iGraphDeltasLaw_law_695 : ai_find (ai_tab mGraphDeltasLaw_law) 695 = some (.iconst 1, 696, 0, 0, 0, .int (nI 1), []) := rfl
set_option maxRecDepth 20000 in theorem iGraphDeltasLaw_law_696 : ai_find (ai_tab mGraphDeltasLaw_law) 696 = some (.iadd, 697, 0, 0, 0, .null, []) := rfl
set_option maxRecDepth 20000 in theorem iGraphDeltasLaw_law_697 : ai_find (ai_tab mGraphDeltasLaw_law) 697 = some (.iaload, 698, 0, 0, 0, .null, []) := rfl
set_option maxRecDepth 20000 in theorem iGraphDeltasLaw_law_698 : ai_find (ai_tab mGraphDeltasLaw_law) 698 = some (.invokevirtual 101, 701, 124, 2, 1, .ref 7, []) := rfl
set_option maxRecDepth 20000 in theorem iGraphDeltasLaw_law_701 : ai_find (ai_tab mGraphDeltasLaw_law) 701 = some (.if_icmp .eq 5, 704, 706, 0, 0, .null, []) := rfl
set_option maxRecDepth 20000 in theorem iGraphDeltasLaw_law_704 : ai_find (ai_tab mGraphDeltasLaw_law) 704 = some (.iconst 0, 705, 0, 0, 0, .int (nI 0), []) := rfl
set_option maxRecDepth 20000 in theorem iGraphDeltasLaw_law_705 : ai_find (ai_tab mGraphDeltasLaw_law) 705 = some (.ireturn, 706, 1, 0, 0, .null, []) := rfl
set_option maxRecDepth 20000 in theorem iGraphDeltasLaw_law_706 : ai_find (ai_tab mGraphDeltasLaw_law) 706 = some (.iinc 3 4, 709, 3, 0, 0, .int (nI 4), []) := rfl
set_option maxRecDepth 20000 in theorem iGraphDeltasLaw_law_709 : ai_find (ai_tab mGraphDeltasLaw_law) 709 = some (.goto (-691), 712, 18, 0, 0, .null, []) := rfl
set_option maxRecDepth 20000 in theorem iGraphDeltasLaw_law_712 : ai_find (ai_tab mGraphDeltasLaw_law) 712 = some (.iconst 1, 713, 0, 0, 0, .int (nI 1), []) := rfl
set_option maxRecDepth 20000 in theorem iGraphDeltasLaw_law_713 : ai_find (ai_tab mGraphDeltasLaw_law) 713 = some (.ireturn, 714, 1, 0, 0, .null, []) := rfl
