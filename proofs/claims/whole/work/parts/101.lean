theorem dX5_mark_0 : decode cX5_mark 0 = .ok (.aload_n 0, 1) := by decide +kernel
theorem dX5_mark_1 : decode cX5_mark 1 = .ok (.getfield 13, 3) := by decide +kernel
theorem dX5_mark_4 : decode cX5_mark 4 = .ok (.aload_n 0, 1) := by decide +kernel
theorem dX5_mark_5 : decode cX5_mark 5 = .ok (.getfield 18, 3) := by decide +kernel
theorem dX5_mark_8 : decode cX5_mark 8 = .ok (.aaload, 1) := by decide +kernel
theorem dX5_mark_9 : decode cX5_mark 9 = .ok (.aload_n 1, 1) := by decide +kernel
theorem dX5_mark_10 : decode cX5_mark 10 = .ok (.invokevirtual 22, 3) := by decide +kernel
theorem dX5_mark_13 : decode cX5_mark 13 = .ok (.return_, 1) := by decide +kernel
theorem dX5_backToMark_0 : decode cX5_backToMark 0 = .ok (.aload_n 0, 1) := by decide +kernel
theorem dX5_backToMark_1 : decode cX5_backToMark 1 = .ok (.getfield 13, 3) := by decide +kernel
theorem dX5_backToMark_4 : decode cX5_backToMark 4 = .ok (.aload_n 0, 1) := by decide +kernel
theorem dX5_backToMark_5 : decode cX5_backToMark 5 = .ok (.getfield 18, 3) := by decide +kernel
theorem dX5_backToMark_8 : decode cX5_backToMark 8 = .ok (.aaload, 1) := by decide +kernel
theorem dX5_backToMark_9 : decode cX5_backToMark 9 = .ok (.aload_n 1, 1) := by decide +kernel
theorem dX5_backToMark_10 : decode cX5_backToMark 10 = .ok (.invokevirtual 26, 3) := by decide +kernel
theorem dX5_backToMark_13 : decode cX5_backToMark 13 = .ok (.return_, 1) := by decide +kernel
theorem dX5_keepMark_0 : decode cX5_keepMark 0 = .ok (.aload_n 0, 1) := by decide +kernel
theorem dX5_keepMark_1 : decode cX5_keepMark 1 = .ok (.aload_n 0, 1) := by decide +kernel
theorem dX5_keepMark_2 : decode cX5_keepMark 2 = .ok (.getfield 18, 3) := by decide +kernel
theorem dX5_keepMark_5 : decode cX5_keepMark 5 = .ok (.iconst 1, 1) := by decide +kernel
theorem dX5_keepMark_6 : decode cX5_keepMark 6 = .ok (.iadd, 1) := by decide +kernel
theorem dX5_keepMark_7 : decode cX5_keepMark 7 = .ok (.bipush 7, 2) := by decide +kernel
theorem dX5_keepMark_9 : decode cX5_keepMark 9 = .ok (.irem, 1) := by decide +kernel
theorem dX5_keepMark_10 : decode cX5_keepMark 10 = .ok (.putfield 18, 3) := by decide +kernel
theorem dX5_keepMark_13 : decode cX5_keepMark 13 = .ok (.aload_n 0, 1) := by decide +kernel
theorem dX5_keepMark_14 : decode cX5_keepMark 14 = .ok (.getfield 29, 3) := by decide +kernel
theorem dX5_keepMark_17 : decode cX5_keepMark 17 = .ok (.bipush 6, 2) := by decide +kernel
theorem dX5_keepMark_19 : decode cX5_keepMark 19 = .ok (.if_icmp .ge 13, 3) := by decide +kernel
theorem dX5_keepMark_22 : decode cX5_keepMark 22 = .ok (.aload_n 0, 1) := by decide +kernel
theorem dX5_keepMark_23 : decode cX5_keepMark 23 = .ok (.dup, 1) := by decide +kernel
theorem dX5_keepMark_24 : decode cX5_keepMark 24 = .ok (.getfield 29, 3) := by decide +kernel
theorem dX5_keepMark_27 : decode cX5_keepMark 27 = .ok (.iconst 1, 1) := by decide +kernel
theorem dX5_keepMark_28 : decode cX5_keepMark 28 = .ok (.iadd, 1) := by decide +kernel
theorem dX5_keepMark_29 : decode cX5_keepMark 29 = .ok (.putfield 29, 3) := by decide +kernel
theorem dX5_keepMark_32 : decode cX5_keepMark 32 = .ok (.return_, 1) := by decide +kernel
theorem dX5_forget_0 : decode cX5_forget 0 = .ok (.aload_n 0, 1) := by decide +kernel
theorem dX5_forget_1 : decode cX5_forget 1 = .ok (.iconst 0, 1) := by decide +kernel
theorem dX5_forget_2 : decode cX5_forget 2 = .ok (.putfield 29, 3) := by decide +kernel
theorem dX5_forget_5 : decode cX5_forget 5 = .ok (.return_, 1) := by decide +kernel
theorem dX5_undoLatest_0 : decode cX5_undoLatest 0 = .ok (.aload_n 0, 1) := by decide +kernel
theorem dX5_undoLatest_1 : decode cX5_undoLatest 1 = .ok (.getfield 29, 3) := by decide +kernel
theorem dX5_undoLatest_4 : decode cX5_undoLatest 4 = .ok (.ifCond .ne 5, 3) := by decide +kernel
theorem dX5_undoLatest_7 : decode cX5_undoLatest 7 = .ok (.iconst (-1), 1) := by decide +kernel
theorem dX5_undoLatest_8 : decode cX5_undoLatest 8 = .ok (.ireturn, 1) := by decide +kernel
theorem dX5_undoLatest_9 : decode cX5_undoLatest 9 = .ok (.aload_n 0, 1) := by decide +kernel
theorem dX5_undoLatest_10 : decode cX5_undoLatest 10 = .ok (.aload_n 0, 1) := by decide +kernel
theorem dX5_undoLatest_11 : decode cX5_undoLatest 11 = .ok (.getfield 18, 3) := by decide +kernel
theorem dX5_undoLatest_14 : decode cX5_undoLatest 14 = .ok (.bipush 7, 2) := by decide +kernel
theorem dX5_undoLatest_16 : decode cX5_undoLatest 16 = .ok (.iadd, 1) := by decide +kernel
theorem dX5_undoLatest_17 : decode cX5_undoLatest 17 = .ok (.iconst 1, 1) := by decide +kernel
theorem dX5_undoLatest_18 : decode cX5_undoLatest 18 = .ok (.isub, 1) := by decide +kernel
theorem dX5_undoLatest_19 : decode cX5_undoLatest 19 = .ok (.bipush 7, 2) := by decide +kernel
theorem dX5_undoLatest_21 : decode cX5_undoLatest 21 = .ok (.irem, 1) := by decide +kernel
theorem dX5_undoLatest_22 : decode cX5_undoLatest 22 = .ok (.putfield 18, 3) := by decide +kernel
theorem dX5_undoLatest_25 : decode cX5_undoLatest 25 = .ok (.aload_n 0, 1) := by decide +kernel
theorem dX5_undoLatest_26 : decode cX5_undoLatest 26 = .ok (.dup, 1) := by decide +kernel
theorem dX5_undoLatest_27 : decode cX5_undoLatest 27 = .ok (.getfield 29, 3) := by decide +kernel
theorem dX5_undoLatest_30 : decode cX5_undoLatest 30 = .ok (.iconst 1, 1) := by decide +kernel
theorem dX5_undoLatest_31 : decode cX5_undoLatest 31 = .ok (.isub, 1) := by decide +kernel
theorem dX5_undoLatest_32 : decode cX5_undoLatest 32 = .ok (.putfield 29, 3) := by decide +kernel
theorem dX5_undoLatest_35 : decode cX5_undoLatest 35 = .ok (.aload_n 0, 1) := by decide +kernel
theorem dX5_undoLatest_36 : decode cX5_undoLatest 36 = .ok (.getfield 13, 3) := by decide +kernel
theorem dX5_undoLatest_39 : decode cX5_undoLatest 39 = .ok (.aload_n 0, 1) := by decide +kernel
theorem dX5_undoLatest_40 : decode cX5_undoLatest 40 = .ok (.getfield 18, 3) := by decide +kernel
theorem dX5_undoLatest_43 : decode cX5_undoLatest 43 = .ok (.aaload, 1) := by decide +kernel
theorem dX5_undoLatest_44 : decode cX5_undoLatest 44 = .ok (.aload_n 1, 1) := by decide +kernel
theorem dX5_undoLatest_45 : decode cX5_undoLatest 45 = .ok (.invokevirtual 26, 3) := by decide +kernel
theorem dX5_undoLatest_48 : decode cX5_undoLatest 48 = .ok (.aload_n 0, 1) := by decide +kernel
theorem dX5_undoLatest_49 : decode cX5_undoLatest 49 = .ok (.getfield 29, 3) := by decide +kernel
theorem dX5_undoLatest_52 : decode cX5_undoLatest 52 = .ok (.ireturn, 1) := by decide +kernel
theorem dX7_messagesTo_0 : decode cX7_messagesTo 0 = .ok (.iconst 0, 1) := by decide +kernel
theorem dX7_messagesTo_1 : decode cX7_messagesTo 1 = .ok (.istore_n 2, 1) := by decide +kernel
theorem dX7_messagesTo_2 : decode cX7_messagesTo 2 = .ok (.iconst 0, 1) := by decide +kernel
theorem dX7_messagesTo_3 : decode cX7_messagesTo 3 = .ok (.istore_n 3, 1) := by decide +kernel
theorem dX7_messagesTo_4 : decode cX7_messagesTo 4 = .ok (.iload_n 3, 1) := by decide +kernel
theorem dX7_messagesTo_5 : decode cX7_messagesTo 5 = .ok (.aload_n 0, 1) := by decide +kernel
theorem dX7_messagesTo_6 : decode cX7_messagesTo 6 = .ok (.getfield 38, 3) := by decide +kernel
theorem dX7_messagesTo_9 : decode cX7_messagesTo 9 = .ok (.getfield 126, 3) := by decide +kernel
theorem dX7_messagesTo_12 : decode cX7_messagesTo 12 = .ok (.if_icmp .ge 34, 3) := by decide +kernel
theorem dX7_messagesTo_15 : decode cX7_messagesTo 15 = .ok (.aload_n 0, 1) := by decide +kernel
theorem dX7_messagesTo_16 : decode cX7_messagesTo 16 = .ok (.getfield 15, 3) := by decide +kernel
theorem dX7_messagesTo_19 : decode cX7_messagesTo 19 = .ok (.iload_n 3, 1) := by decide +kernel
theorem dX7_messagesTo_20 : decode cX7_messagesTo 20 = .ok (.baload, 1) := by decide +kernel
theorem dX7_messagesTo_21 : decode cX7_messagesTo 21 = .ok (.ifCond .eq 19, 3) := by decide +kernel
theorem dX7_messagesTo_24 : decode cX7_messagesTo 24 = .ok (.aload_n 0, 1) := by decide +kernel
theorem dX7_messagesTo_25 : decode cX7_messagesTo 25 = .ok (.getfield 38, 3) := by decide +kernel
theorem dX7_messagesTo_28 : decode cX7_messagesTo 28 = .ok (.getfield 117, 3) := by decide +kernel
theorem dX7_messagesTo_31 : decode cX7_messagesTo 31 = .ok (.iload_n 3, 1) := by decide +kernel
theorem dX7_messagesTo_32 : decode cX7_messagesTo 32 = .ok (.iaload, 1) := by decide +kernel
theorem dX7_messagesTo_33 : decode cX7_messagesTo 33 = .ok (.iload_n 1, 1) := by decide +kernel
theorem dX7_messagesTo_34 : decode cX7_messagesTo 34 = .ok (.if_icmp .ne 6, 3) := by decide +kernel
theorem dX7_messagesTo_37 : decode cX7_messagesTo 37 = .ok (.iinc 2 1, 3) := by decide +kernel
theorem dX7_messagesTo_40 : decode cX7_messagesTo 40 = .ok (.iinc 3 1, 3) := by decide +kernel
theorem dX7_messagesTo_43 : decode cX7_messagesTo 43 = .ok (.goto (-39), 3) := by decide +kernel
theorem dX7_messagesTo_46 : decode cX7_messagesTo 46 = .ok (.iload_n 2, 1) := by decide +kernel
theorem dX7_messagesTo_47 : decode cX7_messagesTo 47 = .ok (.ireturn, 1) := by decide +kernel
theorem dX7_foldTwo_0 : decode cX7_foldTwo 0 = .ok (.aload_n 0, 1) := by decide +kernel
theorem dX7_foldTwo_1 : decode cX7_foldTwo 1 = .ok (.getfield 39, 3) := by decide +kernel
theorem dX7_foldTwo_4 : decode cX7_foldTwo 4 = .ok (.getfield 163, 3) := by decide +kernel
theorem dX7_foldTwo_7 : decode cX7_foldTwo 7 = .ok (.getfield 167, 3) := by decide +kernel
theorem dX7_foldTwo_10 : decode cX7_foldTwo 10 = .ok (.tableswitch 40 1 3 #[26, 32, 38], 26) := by decide +kernel
theorem dX7_foldTwo_36 : decode cX7_foldTwo 36 = .ok (.lload_n 1, 1) := by decide +kernel
theorem dX7_foldTwo_37 : decode cX7_foldTwo 37 = .ok (.lload_n 3, 1) := by decide +kernel
theorem dX7_foldTwo_38 : decode cX7_foldTwo 38 = .ok (.invokestatic 172, 3) := by decide +kernel
theorem dX7_foldTwo_41 : decode cX7_foldTwo 41 = .ok (.lreturn, 1) := by decide +kernel
theorem dX7_foldTwo_42 : decode cX7_foldTwo 42 = .ok (.lload_n 1, 1) := by decide +kernel
theorem dX7_foldTwo_43 : decode cX7_foldTwo 43 = .ok (.lload_n 3, 1) := by decide +kernel
theorem dX7_foldTwo_44 : decode cX7_foldTwo 44 = .ok (.invokestatic 178, 3) := by decide +kernel
theorem dX7_foldTwo_47 : decode cX7_foldTwo 47 = .ok (.lreturn, 1) := by decide +kernel
theorem dX7_foldTwo_48 : decode cX7_foldTwo 48 = .ok (.lload_n 3, 1) := by decide +kernel
theorem dX7_foldTwo_49 : decode cX7_foldTwo 49 = .ok (.lreturn, 1) := by decide +kernel
theorem dX7_foldTwo_50 : decode cX7_foldTwo 50 = .ok (.lload_n 1, 1) := by decide +kernel
theorem dX7_foldTwo_51 : decode cX7_foldTwo 51 = .ok (.lload_n 3, 1) := by decide +kernel
theorem dX7_foldTwo_52 : decode cX7_foldTwo 52 = .ok (.ladd, 1) := by decide +kernel
theorem dX7_foldTwo_53 : decode cX7_foldTwo 53 = .ok (.lstore 6, 2) := by decide +kernel
theorem dX7_foldTwo_55 : decode cX7_foldTwo 55 = .ok (.lload_n 1, 1) := by decide +kernel
theorem dX7_foldTwo_56 : decode cX7_foldTwo 56 = .ok (.lload 6, 2) := by decide +kernel
theorem dX7_foldTwo_58 : decode cX7_foldTwo 58 = .ok (.lxor, 1) := by decide +kernel
theorem dX7_foldTwo_59 : decode cX7_foldTwo 59 = .ok (.lload_n 3, 1) := by decide +kernel
theorem dX7_foldTwo_60 : decode cX7_foldTwo 60 = .ok (.lload 6, 2) := by decide +kernel
theorem dX7_foldTwo_62 : decode cX7_foldTwo 62 = .ok (.lxor, 1) := by decide +kernel
theorem dX7_foldTwo_63 : decode cX7_foldTwo 63 = .ok (.land, 1) := by decide +kernel
theorem dX7_foldTwo_64 : decode cX7_foldTwo 64 = .ok (.lconst 0, 1) := by decide +kernel
theorem dX7_foldTwo_65 : decode cX7_foldTwo 65 = .ok (.lcmp, 1) := by decide +kernel
theorem dX7_foldTwo_66 : decode cX7_foldTwo 66 = .ok (.ifCond .ge 25, 3) := by decide +kernel
theorem dX7_foldTwo_69 : decode cX7_foldTwo 69 = .ok (.aload_n 0, 1) := by decide +kernel
theorem dX7_foldTwo_70 : decode cX7_foldTwo 70 = .ok (.getfield 47, 3) := by decide +kernel
theorem dX7_foldTwo_73 : decode cX7_foldTwo 73 = .ok (.iconst 3, 1) := by decide +kernel
theorem dX7_foldTwo_74 : decode cX7_foldTwo 74 = .ok (.bipush 7, 2) := by decide +kernel
theorem dX7_foldTwo_76 : decode cX7_foldTwo 76 = .ok (.iload 5, 2) := by decide +kernel
theorem dX7_foldTwo_78 : decode cX7_foldTwo 78 = .ok (.iconst (-1), 1) := by decide +kernel
theorem dX7_foldTwo_79 : decode cX7_foldTwo 79 = .ok (.aload_n 0, 1) := by decide +kernel
theorem dX7_foldTwo_80 : decode cX7_foldTwo 80 = .ok (.getfield 38, 3) := by decide +kernel
theorem dX7_foldTwo_83 : decode cX7_foldTwo 83 = .ok (.getfield 97, 3) := by decide +kernel
theorem dX7_foldTwo_86 : decode cX7_foldTwo 86 = .ok (.iconst 1, 1) := by decide +kernel
theorem dX7_foldTwo_87 : decode cX7_foldTwo 87 = .ok (.iadd, 1) := by decide +kernel
theorem dX7_foldTwo_88 : decode cX7_foldTwo 88 = .ok (.invokevirtual 181, 3) := by decide +kernel
theorem dX7_foldTwo_91 : decode cX7_foldTwo 91 = .ok (.lload 6, 2) := by decide +kernel
theorem dX7_foldTwo_93 : decode cX7_foldTwo 93 = .ok (.lreturn, 1) := by decide +kernel
theorem dX7_changeNodes_0 : decode cX7_changeNodes 0 = .ok (.iconst 0, 1) := by decide +kernel
theorem dX7_changeNodes_1 : decode cX7_changeNodes 1 = .ok (.istore_n 1, 1) := by decide +kernel
theorem dX7_changeNodes_2 : decode cX7_changeNodes 2 = .ok (.iload_n 1, 1) := by decide +kernel
theorem dX7_changeNodes_3 : decode cX7_changeNodes 3 = .ok (.aload_n 0, 1) := by decide +kernel
theorem dX7_changeNodes_4 : decode cX7_changeNodes 4 = .ok (.getfield 38, 3) := by decide +kernel
theorem dX7_changeNodes_7 : decode cX7_changeNodes 7 = .ok (.getfield 123, 3) := by decide +kernel
theorem dX7_changeNodes_10 : decode cX7_changeNodes 10 = .ok (.if_icmp .ge 65, 3) := by decide +kernel
theorem dX7_changeNodes_13 : decode cX7_changeNodes 13 = .ok (.aload_n 0, 1) := by decide +kernel
theorem dX7_changeNodes_14 : decode cX7_changeNodes 14 = .ok (.getfield 23, 3) := by decide +kernel
theorem dX7_changeNodes_17 : decode cX7_changeNodes 17 = .ok (.iload_n 1, 1) := by decide +kernel
theorem dX7_changeNodes_18 : decode cX7_changeNodes 18 = .ok (.baload, 1) := by decide +kernel
theorem dX7_changeNodes_19 : decode cX7_changeNodes 19 = .ok (.ifCond .ne 6, 3) := by decide +kernel
theorem dX7_changeNodes_22 : decode cX7_changeNodes 22 = .ok (.goto 47, 3) := by decide +kernel
theorem dX7_changeNodes_25 : decode cX7_changeNodes 25 = .ok (.aload_n 0, 1) := by decide +kernel
theorem dX7_changeNodes_26 : decode cX7_changeNodes 26 = .ok (.getfield 29, 3) := by decide +kernel
theorem dX7_changeNodes_29 : decode cX7_changeNodes 29 = .ok (.iload_n 1, 1) := by decide +kernel
theorem dX7_changeNodes_30 : decode cX7_changeNodes 30 = .ok (.iconst 3, 1) := by decide +kernel
theorem dX7_changeNodes_31 : decode cX7_changeNodes 31 = .ok (.imul, 1) := by decide +kernel
theorem dX7_changeNodes_32 : decode cX7_changeNodes 32 = .ok (.aload_n 0, 1) := by decide +kernel
theorem dX7_changeNodes_33 : decode cX7_changeNodes 33 = .ok (.getfield 38, 3) := by decide +kernel
theorem dX7_changeNodes_36 : decode cX7_changeNodes 36 = .ok (.getfield 156, 3) := by decide +kernel
theorem dX7_changeNodes_39 : decode cX7_changeNodes 39 = .ok (.iload_n 1, 1) := by decide +kernel
theorem dX7_changeNodes_40 : decode cX7_changeNodes 40 = .ok (.iconst 3, 1) := by decide +kernel
theorem dX7_changeNodes_41 : decode cX7_changeNodes 41 = .ok (.imul, 1) := by decide +kernel
theorem dX7_changeNodes_42 : decode cX7_changeNodes 42 = .ok (.iconst 3, 1) := by decide +kernel
theorem dX7_changeNodes_43 : decode cX7_changeNodes 43 = .ok (.invokestatic 185, 3) := by decide +kernel
theorem dX7_changeNodes_46 : decode cX7_changeNodes 46 = .ok (.aload_n 0, 1) := by decide +kernel
theorem dX7_changeNodes_47 : decode cX7_changeNodes 47 = .ok (.getfield 38, 3) := by decide +kernel
theorem dX7_changeNodes_50 : decode cX7_changeNodes 50 = .ok (.getfield 129, 3) := by decide +kernel
theorem dX7_changeNodes_53 : decode cX7_changeNodes 53 = .ok (.iload_n 1, 1) := by decide +kernel
theorem dX7_changeNodes_54 : decode cX7_changeNodes 54 = .ok (.aload_n 0, 1) := by decide +kernel
theorem dX7_changeNodes_55 : decode cX7_changeNodes 55 = .ok (.getfield 26, 3) := by decide +kernel
theorem dX7_changeNodes_58 : decode cX7_changeNodes 58 = .ok (.iload_n 1, 1) := by decide +kernel
theorem dX7_changeNodes_59 : decode cX7_changeNodes 59 = .ok (.baload, 1) := by decide +kernel
theorem dX7_changeNodes_60 : decode cX7_changeNodes 60 = .ok (.ifCond .ne 7, 3) := by decide +kernel
theorem dX7_changeNodes_63 : decode cX7_changeNodes 63 = .ok (.iconst 1, 1) := by decide +kernel
theorem dX7_changeNodes_64 : decode cX7_changeNodes 64 = .ok (.goto 4, 3) := by decide +kernel
theorem dX7_changeNodes_67 : decode cX7_changeNodes 67 = .ok (.iconst 0, 1) := by decide +kernel
theorem dX7_changeNodes_68 : decode cX7_changeNodes 68 = .ok (.bastore, 1) := by decide +kernel
theorem dX7_changeNodes_69 : decode cX7_changeNodes 69 = .ok (.iinc 1 1, 3) := by decide +kernel
theorem dX7_changeNodes_72 : decode cX7_changeNodes 72 = .ok (.goto (-70), 3) := by decide +kernel
theorem dX7_changeNodes_75 : decode cX7_changeNodes 75 = .ok (.return_, 1) := by decide +kernel
theorem dX8_has_0 : decode cX8_has 0 = .ok (.iload_n 1, 1) := by decide +kernel
theorem dX8_has_1 : decode cX8_has 1 = .ok (.ifCond .lt 15, 3) := by decide +kernel
theorem dX8_has_4 : decode cX8_has 4 = .ok (.iload_n 1, 1) := by decide +kernel
theorem dX8_has_5 : decode cX8_has 5 = .ok (.aload_n 0, 1) := by decide +kernel
theorem dX8_has_6 : decode cX8_has 6 = .ok (.getfield 28, 3) := by decide +kernel
theorem dX8_has_9 : decode cX8_has 9 = .ok (.if_icmp .ge 7, 3) := by decide +kernel
theorem dX8_has_12 : decode cX8_has 12 = .ok (.iconst 1, 1) := by decide +kernel
theorem dX8_has_13 : decode cX8_has 13 = .ok (.goto 4, 3) := by decide +kernel
theorem dX8_has_16 : decode cX8_has 16 = .ok (.iconst 0, 1) := by decide +kernel
theorem dX8_has_17 : decode cX8_has 17 = .ok (.ireturn, 1) := by decide +kernel
theorem dX8_partsOf_0 : decode cX8_partsOf 0 = .ok (.iload_n 0, 1) := by decide +kernel
theorem dX8_partsOf_1 : decode cX8_partsOf 1 = .ok (.bipush 8, 2) := by decide +kernel
theorem dX8_partsOf_3 : decode cX8_partsOf 3 = .ok (.if_icmp .ge 5, 3) := by decide +kernel
theorem dX8_partsOf_6 : decode cX8_partsOf 6 = .ok (.iconst 0, 1) := by decide +kernel
theorem dX8_partsOf_7 : decode cX8_partsOf 7 = .ok (.ireturn, 1) := by decide +kernel
theorem dX8_partsOf_8 : decode cX8_partsOf 8 = .ok (.iload_n 0, 1) := by decide +kernel
theorem dX8_partsOf_9 : decode cX8_partsOf 9 = .ok (.bipush 16, 2) := by decide +kernel
theorem dX8_partsOf_11 : decode cX8_partsOf 11 = .ok (.if_icmp .ne 5, 3) := by decide +kernel
theorem dX8_partsOf_14 : decode cX8_partsOf 14 = .ok (.iconst 3, 1) := by decide +kernel
theorem dX8_partsOf_15 : decode cX8_partsOf 15 = .ok (.ireturn, 1) := by decide +kernel
theorem dX8_partsOf_16 : decode cX8_partsOf 16 = .ok (.iload_n 0, 1) := by decide +kernel
theorem dX8_partsOf_17 : decode cX8_partsOf 17 = .ok (.bipush 17, 2) := by decide +kernel
theorem dX8_partsOf_19 : decode cX8_partsOf 19 = .ok (.if_icmp .ne 7, 3) := by decide +kernel
theorem dX8_partsOf_22 : decode cX8_partsOf 22 = .ok (.iconst 1, 1) := by decide +kernel
theorem dX8_partsOf_23 : decode cX8_partsOf 23 = .ok (.goto 4, 3) := by decide +kernel
theorem dX8_partsOf_26 : decode cX8_partsOf 26 = .ok (.iconst 2, 1) := by decide +kernel
theorem dX8_partsOf_27 : decode cX8_partsOf 27 = .ok (.ireturn, 1) := by decide +kernel
theorem dX9_has_0 : decode cX9_has 0 = .ok (.iload_n 1, 1) := by decide +kernel
theorem dX9_has_1 : decode cX9_has 1 = .ok (.ifCond .lt 15, 3) := by decide +kernel
theorem dX9_has_4 : decode cX9_has 4 = .ok (.iload_n 1, 1) := by decide +kernel
theorem dX9_has_5 : decode cX9_has 5 = .ok (.aload_n 0, 1) := by decide +kernel
theorem dX9_has_6 : decode cX9_has 6 = .ok (.getfield 19, 3) := by decide +kernel
theorem dX9_has_9 : decode cX9_has 9 = .ok (.if_icmp .ge 7, 3) := by decide +kernel
theorem dX9_has_12 : decode cX9_has 12 = .ok (.iconst 1, 1) := by decide +kernel
theorem dX9_has_13 : decode cX9_has 13 = .ok (.goto 4, 3) := by decide +kernel
theorem dX9_has_16 : decode cX9_has 16 = .ok (.iconst 0, 1) := by decide +kernel
theorem dX9_has_17 : decode cX9_has 17 = .ok (.ireturn, 1) := by decide +kernel
theorem dX9_clear_0 : decode cX9_clear 0 = .ok (.aload_n 0, 1) := by decide +kernel
theorem dX9_clear_1 : decode cX9_clear 1 = .ok (.iconst 0, 1) := by decide +kernel
theorem dX9_clear_2 : decode cX9_clear 2 = .ok (.putfield 19, 3) := by decide +kernel
theorem dX9_clear_5 : decode cX9_clear 5 = .ok (.return_, 1) := by decide +kernel
theorem dX9_add_0 : decode cX9_add 0 = .ok (.aload_n 0, 1) := by decide +kernel
theorem dX9_add_1 : decode cX9_add 1 = .ok (.getfield 19, 3) := by decide +kernel
theorem dX9_add_4 : decode cX9_add 4 = .ok (.sipush 200, 3) := by decide +kernel
theorem dX9_add_7 : decode cX9_add 7 = .ok (.if_icmp .lt 4, 3) := by decide +kernel
theorem dX9_add_10 : decode cX9_add 10 = .ok (.return_, 1) := by decide +kernel
theorem dX9_add_11 : decode cX9_add 11 = .ok (.aload_n 0, 1) := by decide +kernel
theorem dX9_add_12 : decode cX9_add 12 = .ok (.getfield 9, 3) := by decide +kernel
theorem dX9_add_15 : decode cX9_add 15 = .ok (.aload_n 0, 1) := by decide +kernel
theorem dX9_add_16 : decode cX9_add 16 = .ok (.getfield 19, 3) := by decide +kernel
theorem dX9_add_19 : decode cX9_add 19 = .ok (.iload_n 1, 1) := by decide +kernel
theorem dX9_add_20 : decode cX9_add 20 = .ok (.iastore, 1) := by decide +kernel
theorem dX9_add_21 : decode cX9_add 21 = .ok (.aload_n 0, 1) := by decide +kernel
theorem dX9_add_22 : decode cX9_add 22 = .ok (.getfield 15, 3) := by decide +kernel
theorem dX9_add_25 : decode cX9_add 25 = .ok (.aload_n 0, 1) := by decide +kernel
theorem dX9_add_26 : decode cX9_add 26 = .ok (.getfield 19, 3) := by decide +kernel
theorem dX9_add_29 : decode cX9_add 29 = .ok (.lload_n 2, 1) := by decide +kernel
theorem dX9_add_30 : decode cX9_add 30 = .ok (.lastore, 1) := by decide +kernel
theorem dX9_add_31 : decode cX9_add 31 = .ok (.aload_n 0, 1) := by decide +kernel
theorem dX9_add_32 : decode cX9_add 32 = .ok (.dup, 1) := by decide +kernel
theorem dX9_add_33 : decode cX9_add 33 = .ok (.getfield 19, 3) := by decide +kernel
theorem dX9_add_36 : decode cX9_add 36 = .ok (.iconst 1, 1) := by decide +kernel
theorem dX9_add_37 : decode cX9_add 37 = .ok (.iadd, 1) := by decide +kernel
theorem dX9_add_38 : decode cX9_add 38 = .ok (.putfield 19, 3) := by decide +kernel
theorem dX9_add_41 : decode cX9_add 41 = .ok (.return_, 1) := by decide +kernel
theorem dX10_hasNode_0 : decode cX10_hasNode 0 = .ok (.iload_n 1, 1) := by decide +kernel
theorem dX10_hasNode_1 : decode cX10_hasNode 1 = .ok (.ifCond .lt 15, 3) := by decide +kernel
theorem dX10_hasNode_4 : decode cX10_hasNode 4 = .ok (.iload_n 1, 1) := by decide +kernel
theorem dX10_hasNode_5 : decode cX10_hasNode 5 = .ok (.aload_n 0, 1) := by decide +kernel
theorem dX10_hasNode_6 : decode cX10_hasNode 6 = .ok (.getfield 32, 3) := by decide +kernel
theorem dX10_hasNode_9 : decode cX10_hasNode 9 = .ok (.if_icmp .ge 7, 3) := by decide +kernel
theorem dX10_hasNode_12 : decode cX10_hasNode 12 = .ok (.iconst 1, 1) := by decide +kernel
theorem dX10_hasNode_13 : decode cX10_hasNode 13 = .ok (.goto 4, 3) := by decide +kernel
theorem dX10_hasNode_16 : decode cX10_hasNode 16 = .ok (.iconst 0, 1) := by decide +kernel
theorem dX10_hasNode_17 : decode cX10_hasNode 17 = .ok (.ireturn, 1) := by decide +kernel
def rm_cX5_mark : Room := { frames := 2, cells := 0, slots := 0, locals := 40 }
def G_cX5_mark (p : Program) (l : Launch) (e : Env) (s : State) (m : MethodId) (args : Array Value) (below : List Frame) (meth : Method) (c : Code) (dC : Nat → ClassId) (dI : Nat → Nat → Nat) (kA : Nat → ClassId) (ad : Nat → Nat) (res : RS) (F : RS → Option (RS)) : Prop := ∀ (σ : RS), F σ = some res → ∀ (H : Heap) (locs : List Loc) (ls : Array Slot), va_P (dC, dI) vwCl (c_w kA ad σ) H → va_S (jw_A 57 ad) s.heap H locs → lv_has ls 2 [(0, .ref (ad 17)), (1, .ref (ad 7))] → W p l e rm_cX5_mark s m args below meth c H locs 0 0 (c_Qu below dC dI kA ad args s res) (F0 m 0 ls [])
def s_cX5_mark (σ : RS) : Option (RS) := kn_ld (fun j => j) 7 (rg_I σ 11) (fun j1 => kn_u (s_cX4_take j1 σ) (fun σ3 => some σ3))
set_option maxRecDepth 100000 in
set_option maxHeartbeats 4000000 in
theorem p_cX5_mark {p : Program} {l : Launch} {e : Env} {s : State} {m : MethodId} {args : Array Value} {below : List Frame} {meth : Method} {c : Code} {dC : Nat → ClassId} {dI : Nat → Nat → Nat} {kA : Nat → ClassId} {ad : Nat → Nat} (C : jxc cX5_mark none 2 RX5 p s m args meth c dC dI kA) (hap : jw_ap 57 ad) {res : RS} : G_cX5_mark p l e s m args below meth c dC dI kA ad res (s_cX5_mark) := by
  obtain ⟨hx, hb, hml, hown, hts, hr, hlocks, hK, hN⟩ := id C
  intro σ hf H locs ls hP hS hl
  unfold s_cX5_mark at hf
  refine lv_aload_n hx hb dX5_mark_0 rfl (lv_at hl 0 rfl) ?_
  refine c_gX5_ring hx hb hts hown hK hP (hts _ kw_239) dX5_mark_1 ?_
  refine lv_aload_n hx hb dX5_mark_4 rfl (lv_at hl 0 rfl) ?_
  refine c_gX5_next hx hb hts hown hK hP (hts _ kw_240) dX5_mark_5 ?_
  refine c_rld hx hb hK hP hf dX5_mark_8 (fun j1 hj1 hf => ?_)
  refine lv_aload_n hx hb dX5_mark_9 rfl (lv_at hl 1 rfl) ?_
  refine jk_u hf (fun res hres => jv_run hx hb hml hown hts hK hN c_hG c_hNW hl.1 (n := 1) (As := [.ref (ad 7)]) (rest := []) (c_cX4_take l hap j1 hj1 σ res hres) hP (ci := 4) rfl (c_lmem hj1) rfl kw_528 kw_525 kw_526 kw_527 kw_58 ⟨rfl, rfl⟩ (by decide +kernel) rfl ⟨Nat.le_of_ble_eq_true rfl, Nat.le_of_ble_eq_true rfl⟩ rfl (Nat.le_of_ble_eq_true rfl) dX5_mark_10) hS (fun σ3 H locs hP hS hf => ?_)
  exact jr_u hx hb hr hlocks hf hP hS dX5_mark_13
theorem c_cX5_mark (l : Launch) {dC : Nat → ClassId} {dI : Nat → Nat → Nat} {kA : Nat → ClassId} {ad : Nat → Nat} (hap : jw_ap 57 ad) (σ : RS) (res : RS) (hf : s_cX5_mark σ = some res) : jm_u l KW NW (dC, dI) vwCl (jtys kA) (jw_A 57 ad) (c_w kA ad) yX5_mark cX5_mark 2 (rm_cX5_mark) [.ref (ad 17), .ref (ad 7)] σ res := jm_u_of (by decide) (Nat.le_of_ble_eq_true rfl) (fun p e s m below meth c C hP hS ls hl => p_cX5_mark C hap σ hf s.heap [] ls hP hS hl)

def rm_cX5_backToMark : Room := { frames := 2, cells := 0, slots := 0, locals := 40 }
def G_cX5_backToMark (p : Program) (l : Launch) (e : Env) (s : State) (m : MethodId) (args : Array Value) (below : List Frame) (meth : Method) (c : Code) (dC : Nat → ClassId) (dI : Nat → Nat → Nat) (kA : Nat → ClassId) (ad : Nat → Nat) (res : RS) (F : RS → Option (RS)) : Prop := ∀ (σ : RS), F σ = some res → ∀ (H : Heap) (locs : List Loc) (ls : Array Slot), va_P (dC, dI) vwCl (c_w kA ad σ) H → va_S (jw_A 57 ad) s.heap H locs → lv_has ls 2 [(0, .ref (ad 17)), (1, .ref (ad 7))] → W p l e rm_cX5_backToMark s m args below meth c H locs 0 0 (c_Qu below dC dI kA ad args s res) (F0 m 0 ls [])
def s_cX5_backToMark (σ : RS) : Option (RS) := kn_ld (fun j => j) 7 (rg_I σ 11) (fun j1 => kn_u (s_cX4_giveBack j1 σ) (fun σ3 => some σ3))
set_option maxRecDepth 100000 in
set_option maxHeartbeats 4000000 in
theorem p_cX5_backToMark {p : Program} {l : Launch} {e : Env} {s : State} {m : MethodId} {args : Array Value} {below : List Frame} {meth : Method} {c : Code} {dC : Nat → ClassId} {dI : Nat → Nat → Nat} {kA : Nat → ClassId} {ad : Nat → Nat} (C : jxc cX5_backToMark none 2 RX5 p s m args meth c dC dI kA) (hap : jw_ap 57 ad) {res : RS} : G_cX5_backToMark p l e s m args below meth c dC dI kA ad res (s_cX5_backToMark) := by
  obtain ⟨hx, hb, hml, hown, hts, hr, hlocks, hK, hN⟩ := id C
  intro σ hf H locs ls hP hS hl
  unfold s_cX5_backToMark at hf
  refine lv_aload_n hx hb dX5_backToMark_0 rfl (lv_at hl 0 rfl) ?_
  refine c_gX5_ring hx hb hts hown hK hP (hts _ kw_239) dX5_backToMark_1 ?_
  refine lv_aload_n hx hb dX5_backToMark_4 rfl (lv_at hl 0 rfl) ?_
  refine c_gX5_next hx hb hts hown hK hP (hts _ kw_240) dX5_backToMark_5 ?_
  refine c_rld hx hb hK hP hf dX5_backToMark_8 (fun j1 hj1 hf => ?_)
  refine lv_aload_n hx hb dX5_backToMark_9 rfl (lv_at hl 1 rfl) ?_
  refine jk_u hf (fun res hres => jv_run hx hb hml hown hts hK hN c_hG c_hNW hl.1 (n := 1) (As := [.ref (ad 7)]) (rest := []) (c_cX4_giveBack l hap j1 hj1 σ res hres) hP (ci := 4) rfl (c_lmem hj1) rfl kw_680 kw_677 kw_678 kw_679 kw_58 ⟨rfl, rfl⟩ (by decide +kernel) rfl ⟨Nat.le_of_ble_eq_true rfl, Nat.le_of_ble_eq_true rfl⟩ rfl (Nat.le_of_ble_eq_true rfl) dX5_backToMark_10) hS (fun σ3 H locs hP hS hf => ?_)
  exact jr_u hx hb hr hlocks hf hP hS dX5_backToMark_13
theorem c_cX5_backToMark (l : Launch) {dC : Nat → ClassId} {dI : Nat → Nat → Nat} {kA : Nat → ClassId} {ad : Nat → Nat} (hap : jw_ap 57 ad) (σ : RS) (res : RS) (hf : s_cX5_backToMark σ = some res) : jm_u l KW NW (dC, dI) vwCl (jtys kA) (jw_A 57 ad) (c_w kA ad) yX5_backToMark cX5_backToMark 2 (rm_cX5_backToMark) [.ref (ad 17), .ref (ad 7)] σ res := jm_u_of (by decide) (Nat.le_of_ble_eq_true rfl) (fun p e s m below meth c C hP hS ls hl => p_cX5_backToMark C hap σ hf s.heap [] ls hP hS hl)

def rm_cX5_keepMark : Room := { frames := 0, cells := 0, slots := 0, locals := 0 }
def G_cX5_keepMark (p : Program) (l : Launch) (e : Env) (s : State) (m : MethodId) (args : Array Value) (below : List Frame) (meth : Method) (c : Code) (dC : Nat → ClassId) (dI : Nat → Nat → Nat) (kA : Nat → ClassId) (ad : Nat → Nat) (res : RS) (F : RS → Option (RS)) : Prop := ∀ (σ : RS), F σ = some res → ∀ (H : Heap) (locs : List Loc) (ls : Array Slot), va_P (dC, dI) vwCl (c_w kA ad σ) H → va_S (jw_A 57 ad) s.heap H locs → lv_has ls 1 [(0, .ref (ad 17))] → W p l e rm_cX5_keepMark s m args below meth c H locs 0 0 (c_Qu below dC dI kA ad args s res) (F0 m 0 ls [])
def s_cX5_keepMark (σ : RS) : Option (RS) := kn_v (rs_I σ 11 (((rg_I σ 11) + 1) - ((rg_I σ 11) + 1) / 7 * 7)) (fun σ1 => if 6 ≤ (rg_I σ1 12) then some σ1 else (kn_v (rs_I σ1 12 ((rg_I σ1 12) + 1)) (fun σ2 => some σ2)))
set_option maxRecDepth 100000 in
set_option maxHeartbeats 4000000 in
theorem p_cX5_keepMark {p : Program} {l : Launch} {e : Env} {s : State} {m : MethodId} {args : Array Value} {below : List Frame} {meth : Method} {c : Code} {dC : Nat → ClassId} {dI : Nat → Nat → Nat} {kA : Nat → ClassId} {ad : Nat → Nat} (C : jxc cX5_keepMark none 1 RX5 p s m args meth c dC dI kA) (hap : jw_ap 57 ad) {res : RS} : G_cX5_keepMark p l e s m args below meth c dC dI kA ad res (s_cX5_keepMark) := by
  obtain ⟨hx, hb, hml, hown, hts, hr, hlocks, hK, hN⟩ := id C
  intro σ hf H locs ls hP hS hl
  unfold s_cX5_keepMark at hf
  refine lv_aload_n hx hb dX5_keepMark_0 rfl (lv_at hl 0 rfl) ?_
  refine lv_aload_n hx hb dX5_keepMark_1 rfl (lv_at hl 0 rfl) ?_
  refine c_gX5_next hx hb hts hown hK hP (hts _ kw_240) dX5_keepMark_2 ?_
  refine lv_iconst (v := 1) hx hb dX5_keepMark_5 (by decide) ?_
  refine lv_iadd hx hb dX5_keepMark_6 ?_
  refine lv_bipush (v := 7) hx hb dX5_keepMark_7 (by decide) ?_
  refine lv_irem hx hb dX5_keepMark_9 (by decide) ?_
  refine c_pX5_next hx hb hts hown hK hap hP hS hf (hts _ kw_240) dX5_keepMark_10 (fun σ1 H locs hP hS hf => ?_)
  refine lv_aload_n hx hb dX5_keepMark_13 rfl (lv_at hl 0 rfl) ?_
  refine c_gX5_kept hx hb hts hown hK hP (hts _ kw_241) dX5_keepMark_14 ?_
  refine lv_bipush (v := 6) hx hb dX5_keepMark_17 (by decide) ?_
  refine jc_ge (tgt := 32) hx hb hf dX5_keepMark_19 (by decide) (fun hf => ?_) (fun hf => ?_)
  · exact jr_u hx hb hr hlocks hf hP hS dX5_keepMark_32
  · refine lv_aload_n hx hb dX5_keepMark_22 rfl (lv_at hl 0 rfl) ?_
    refine lv_dup hx hb dX5_keepMark_23 rfl ?_
    refine c_gX5_kept hx hb hts hown hK hP (hts _ kw_241) dX5_keepMark_24 ?_
    refine lv_iconst (v := 1) hx hb dX5_keepMark_27 (by decide) ?_
    refine lv_iadd hx hb dX5_keepMark_28 ?_
    refine c_pX5_kept hx hb hts hown hK hap hP hS hf (hts _ kw_241) dX5_keepMark_29 (fun σ2 H locs hP hS hf => ?_)
    exact jr_u hx hb hr hlocks hf hP hS dX5_keepMark_32
theorem c_cX5_keepMark (l : Launch) {dC : Nat → ClassId} {dI : Nat → Nat → Nat} {kA : Nat → ClassId} {ad : Nat → Nat} (hap : jw_ap 57 ad) (σ : RS) (res : RS) (hf : s_cX5_keepMark σ = some res) : jm_u l KW NW (dC, dI) vwCl (jtys kA) (jw_A 57 ad) (c_w kA ad) yX5_keepMark cX5_keepMark 1 (rm_cX5_keepMark) [.ref (ad 17)] σ res := jm_u_of (by decide) (Nat.le_of_ble_eq_true rfl) (fun p e s m below meth c C hP hS ls hl => p_cX5_keepMark C hap σ hf s.heap [] ls hP hS hl)

def rm_cX5_forget : Room := { frames := 0, cells := 0, slots := 0, locals := 0 }
def G_cX5_forget (p : Program) (l : Launch) (e : Env) (s : State) (m : MethodId) (args : Array Value) (below : List Frame) (meth : Method) (c : Code) (dC : Nat → ClassId) (dI : Nat → Nat → Nat) (kA : Nat → ClassId) (ad : Nat → Nat) (res : RS) (F : RS → Option (RS)) : Prop := ∀ (σ : RS), F σ = some res → ∀ (H : Heap) (locs : List Loc) (ls : Array Slot), va_P (dC, dI) vwCl (c_w kA ad σ) H → va_S (jw_A 57 ad) s.heap H locs → lv_has ls 1 [(0, .ref (ad 17))] → W p l e rm_cX5_forget s m args below meth c H locs 0 0 (c_Qu below dC dI kA ad args s res) (F0 m 0 ls [])
def s_cX5_forget (σ : RS) : Option (RS) := kn_v (rs_I σ 12 0) (fun σ1 => some σ1)
set_option maxRecDepth 100000 in
set_option maxHeartbeats 4000000 in
theorem p_cX5_forget {p : Program} {l : Launch} {e : Env} {s : State} {m : MethodId} {args : Array Value} {below : List Frame} {meth : Method} {c : Code} {dC : Nat → ClassId} {dI : Nat → Nat → Nat} {kA : Nat → ClassId} {ad : Nat → Nat} (C : jxc cX5_forget none 1 RX5 p s m args meth c dC dI kA) (hap : jw_ap 57 ad) {res : RS} : G_cX5_forget p l e s m args below meth c dC dI kA ad res (s_cX5_forget) := by
  obtain ⟨hx, hb, hml, hown, hts, hr, hlocks, hK, hN⟩ := id C
  intro σ hf H locs ls hP hS hl
  unfold s_cX5_forget at hf
  refine lv_aload_n hx hb dX5_forget_0 rfl (lv_at hl 0 rfl) ?_
  refine lv_iconst (v := 0) hx hb dX5_forget_1 (by decide) ?_
  refine c_pX5_kept hx hb hts hown hK hap hP hS hf (hts _ kw_241) dX5_forget_2 (fun σ1 H locs hP hS hf => ?_)
  exact jr_u hx hb hr hlocks hf hP hS dX5_forget_5
theorem c_cX5_forget (l : Launch) {dC : Nat → ClassId} {dI : Nat → Nat → Nat} {kA : Nat → ClassId} {ad : Nat → Nat} (hap : jw_ap 57 ad) (σ : RS) (res : RS) (hf : s_cX5_forget σ = some res) : jm_u l KW NW (dC, dI) vwCl (jtys kA) (jw_A 57 ad) (c_w kA ad) yX5_forget cX5_forget 1 (rm_cX5_forget) [.ref (ad 17)] σ res := jm_u_of (by decide) (Nat.le_of_ble_eq_true rfl) (fun p e s m below meth c C hP hS ls hl => p_cX5_forget C hap σ hf s.heap [] ls hP hS hl)

def rm_cX5_undoLatest : Room := { frames := 2, cells := 0, slots := 0, locals := 40 }
def G_cX5_undoLatest (p : Program) (l : Launch) (e : Env) (s : State) (m : MethodId) (args : Array Value) (below : List Frame) (meth : Method) (c : Code) (dC : Nat → ClassId) (dI : Nat → Nat → Nat) (kA : Nat → ClassId) (ad : Nat → Nat) (res : Int32 × RS) (F : RS → Option (Int32 × RS)) : Prop := ∀ (σ : RS), F σ = some res → ∀ (H : Heap) (locs : List Loc) (ls : Array Slot), va_P (dC, dI) vwCl (c_w kA ad σ) H → va_S (jw_A 57 ad) s.heap H locs → lv_has ls 2 [(0, .ref (ad 17)), (1, .ref (ad 7))] → W p l e rm_cX5_undoLatest s m args below meth c H locs 0 0 (c_Qi below dC dI kA ad args s res) (F0 m 0 ls [])
def s_cX5_undoLatest (σ : RS) : Option (Int32 × RS) := if (rg_I σ 12) = 0 then (some ((-1), σ)) else (kn_v (rs_I σ 11 ((((rg_I σ 11) + 7) - 1) - (((rg_I σ 11) + 7) - 1) / 7 * 7)) (fun σ1 => kn_v (rs_I σ1 12 ((rg_I σ1 12) - 1)) (fun σ2 => kn_ld (fun j => j) 7 (rg_I σ2 11) (fun j3 => kn_u (s_cX4_giveBack j3 σ2) (fun σ5 => some (rg_I σ5 12, σ5))))))
set_option maxRecDepth 100000 in
set_option maxHeartbeats 4000000 in
theorem p_cX5_undoLatest {p : Program} {l : Launch} {e : Env} {s : State} {m : MethodId} {args : Array Value} {below : List Frame} {meth : Method} {c : Code} {dC : Nat → ClassId} {dI : Nat → Nat → Nat} {kA : Nat → ClassId} {ad : Nat → Nat} (C : jxc cX5_undoLatest (some .int) 2 RX5 p s m args meth c dC dI kA) (hap : jw_ap 57 ad) {res : Int32 × RS} : G_cX5_undoLatest p l e s m args below meth c dC dI kA ad res (s_cX5_undoLatest) := by
  obtain ⟨hx, hb, hml, hown, hts, hr, hlocks, hK, hN⟩ := id C
  intro σ hf H locs ls hP hS hl
  unfold s_cX5_undoLatest at hf
  refine lv_aload_n hx hb dX5_undoLatest_0 rfl (lv_at hl 0 rfl) ?_
  refine c_gX5_kept hx hb hts hown hK hP (hts _ kw_241) dX5_undoLatest_1 ?_
  refine jb_ne (tgt := 9) hx hb hf dX5_undoLatest_4 (by decide) (fun hf => ?_) (fun hf => ?_)
  · refine lv_aload_n hx hb dX5_undoLatest_9 rfl (lv_at hl 0 rfl) ?_
    refine lv_aload_n hx hb dX5_undoLatest_10 rfl (lv_at hl 0 rfl) ?_
    refine c_gX5_next hx hb hts hown hK hP (hts _ kw_240) dX5_undoLatest_11 ?_
    refine lv_bipush (v := 7) hx hb dX5_undoLatest_14 (by decide) ?_
    refine lv_iadd hx hb dX5_undoLatest_16 ?_
    refine lv_iconst (v := 1) hx hb dX5_undoLatest_17 (by decide) ?_
    refine lv_isub hx hb dX5_undoLatest_18 ?_
    refine lv_bipush (v := 7) hx hb dX5_undoLatest_19 (by decide) ?_
    refine lv_irem hx hb dX5_undoLatest_21 (by decide) ?_
    refine c_pX5_next hx hb hts hown hK hap hP hS hf (hts _ kw_240) dX5_undoLatest_22 (fun σ1 H locs hP hS hf => ?_)
    refine lv_aload_n hx hb dX5_undoLatest_25 rfl (lv_at hl 0 rfl) ?_
    refine lv_dup hx hb dX5_undoLatest_26 rfl ?_
    refine c_gX5_kept hx hb hts hown hK hP (hts _ kw_241) dX5_undoLatest_27 ?_
    refine lv_iconst (v := 1) hx hb dX5_undoLatest_30 (by decide) ?_
    refine lv_isub hx hb dX5_undoLatest_31 ?_
    refine c_pX5_kept hx hb hts hown hK hap hP hS hf (hts _ kw_241) dX5_undoLatest_32 (fun σ2 H locs hP hS hf => ?_)
    refine lv_aload_n hx hb dX5_undoLatest_35 rfl (lv_at hl 0 rfl) ?_
    refine c_gX5_ring hx hb hts hown hK hP (hts _ kw_239) dX5_undoLatest_36 ?_
    refine lv_aload_n hx hb dX5_undoLatest_39 rfl (lv_at hl 0 rfl) ?_
    refine c_gX5_next hx hb hts hown hK hP (hts _ kw_240) dX5_undoLatest_40 ?_
    refine c_rld hx hb hK hP hf dX5_undoLatest_43 (fun j3 hj3 hf => ?_)
    refine lv_aload_n hx hb dX5_undoLatest_44 rfl (lv_at hl 1 rfl) ?_
    refine jk_u hf (fun res hres => jv_run hx hb hml hown hts hK hN c_hG c_hNW hl.1 (n := 1) (As := [.ref (ad 7)]) (rest := []) (c_cX4_giveBack l hap j3 hj3 σ2 res hres) hP (ci := 4) rfl (c_lmem hj3) rfl kw_680 kw_677 kw_678 kw_679 kw_58 ⟨rfl, rfl⟩ (by decide +kernel) rfl ⟨Nat.le_of_ble_eq_true rfl, Nat.le_of_ble_eq_true rfl⟩ rfl (Nat.le_of_ble_eq_true rfl) dX5_undoLatest_45) hS (fun σ5 H locs hP hS hf => ?_)
    refine lv_aload_n hx hb dX5_undoLatest_48 rfl (lv_at hl 0 rfl) ?_
    refine c_gX5_kept hx hb hts hown hK hP (hts _ kw_241) dX5_undoLatest_49 ?_
    exact jr_i hx hb hr hlocks hf rfl hP hS dX5_undoLatest_52
  · refine lv_iconst (v := (-1)) hx hb dX5_undoLatest_7 (by decide) ?_
    exact jr_i hx hb hr hlocks hf rfl hP hS dX5_undoLatest_8
theorem c_cX5_undoLatest (l : Launch) {dC : Nat → ClassId} {dI : Nat → Nat → Nat} {kA : Nat → ClassId} {ad : Nat → Nat} (hap : jw_ap 57 ad) (σ : RS) (res : Int32 × RS) (hf : s_cX5_undoLatest σ = some res) : jm_i l KW NW (dC, dI) vwCl (jtys kA) (jw_A 57 ad) (c_w kA ad) yX5_undoLatest cX5_undoLatest 2 .int (rm_cX5_undoLatest) [.ref (ad 17), .ref (ad 7)] σ res := jm_i_of (by decide) (Nat.le_of_ble_eq_true rfl) (fun p e s m below meth c C hP hS ls hl => p_cX5_undoLatest C hap σ hf s.heap [] ls hP hS hl)

def rm_cX7_messagesTo : Room := { frames := 0, cells := 0, slots := 0, locals := 0 }
def G_cX7_messagesTo_b40 (p : Program) (l : Launch) (e : Env) (s : State) (m : MethodId) (args : Array Value) (below : List Frame) (meth : Method) (c : Code) (dC : Nat → ClassId) (dI : Nat → Nat → Nat) (kA : Nat → ClassId) (ad : Nat → Nat) (res : Int32 × RS) (F : RS → Int32 → Int32 → Int32 → Option (Int32 × RS)) : Prop := ∀ (σ : RS) (x1 : Int32) (x2 : Int32) (x3 : Int32), F σ x1 x2 x3 = some res → ∀ (H : Heap) (locs : List Loc) (ls : Array Slot), va_P (dC, dI) vwCl (c_w kA ad σ) H → va_S (jw_A 57 ad) s.heap H locs → lv_has ls 4 [(0, .ref (ad 24)), (1, .int x1), (2, .int x2), (3, .int x3)] → W p l e rm_cX7_messagesTo s m args below meth c H locs 0 0 (c_Qi below dC dI kA ad args s res) (F0 m 40 ls [])
def G_cX7_messagesTo_b4 (p : Program) (l : Launch) (e : Env) (s : State) (m : MethodId) (args : Array Value) (below : List Frame) (meth : Method) (c : Code) (dC : Nat → ClassId) (dI : Nat → Nat → Nat) (kA : Nat → ClassId) (ad : Nat → Nat) (res : Int32 × RS) (F : RS → Int32 → Int32 → Int32 → Option (Int32 × RS)) : Prop := ∀ (σ : RS) (x1 : Int32) (x2 : Int32) (x3 : Int32), F σ x1 x2 x3 = some res → ∀ (H : Heap) (locs : List Loc) (ls : Array Slot), va_P (dC, dI) vwCl (c_w kA ad σ) H → va_S (jw_A 57 ad) s.heap H locs → lv_has ls 4 [(0, .ref (ad 24)), (1, .int x1), (2, .int x2), (3, .int x3)] → W p l e rm_cX7_messagesTo s m args below meth c H locs 0 0 (c_Qi below dC dI kA ad args s res) (F0 m 4 ls [])
def G_cX7_messagesTo (p : Program) (l : Launch) (e : Env) (s : State) (m : MethodId) (args : Array Value) (below : List Frame) (meth : Method) (c : Code) (dC : Nat → ClassId) (dI : Nat → Nat → Nat) (kA : Nat → ClassId) (ad : Nat → Nat) (res : Int32 × RS) (F : RS → Int32 → Option (Int32 × RS)) : Prop := ∀ (σ : RS) (x1 : Int32), F σ x1 = some res → ∀ (H : Heap) (locs : List Loc) (ls : Array Slot), va_P (dC, dI) vwCl (c_w kA ad σ) H → va_S (jw_A 57 ad) s.heap H locs → lv_has ls 4 [(0, .ref (ad 24)), (1, .int x1)] → W p l e rm_cX7_messagesTo s m args below meth c H locs 0 0 (c_Qi below dC dI kA ad args s res) (F0 m 0 ls [])
def s_cX7_messagesTo_b40 (k4 : RS → Int32 → Int32 → Int32 → Option (Int32 × RS)) (σ : RS) (x1 : Int32) (x2 : Int32) (x3 : Int32) : Option (Int32 × RS) := kn_v (x3 + 1) (fun v1 => k4 σ x1 x2 v1)
set_option maxRecDepth 100000 in
set_option maxHeartbeats 4000000 in
theorem p_cX7_messagesTo_b40 {p : Program} {l : Launch} {e : Env} {s : State} {m : MethodId} {args : Array Value} {below : List Frame} {meth : Method} {c : Code} {dC : Nat → ClassId} {dI : Nat → Nat → Nat} {kA : Nat → ClassId} {ad : Nat → Nat} (C : jxc cX7_messagesTo (some .int) 4 RX7 p s m args meth c dC dI kA) (hap : jw_ap 57 ad) {res : Int32 × RS} {k4 : RS → Int32 → Int32 → Int32 → Option (Int32 × RS)} (hk4 : G_cX7_messagesTo_b4 p l e s m args below meth c dC dI kA ad res k4) : G_cX7_messagesTo_b40 p l e s m args below meth c dC dI kA ad res (s_cX7_messagesTo_b40 k4) := by
  obtain ⟨hx, hb, hml, hown, hts, hr, hlocks, hK, hN⟩ := id C
  intro σ x1 x2 x3 hf H locs ls hP hS hl
  unfold s_cX7_messagesTo_b40 at hf
  obtain ⟨v1, e_v1, hf⟩ := kn_v_e hf
  refine lv_iinc (v := v1) (lv' := [(3, .int v1), (0, .ref (ad 24)), (1, .int x1), (2, .int x2)]) hx hb dX7_messagesTo_40 hl (k := 3) rfl e_v1 (by decide) rfl (fun ls hl => ?_)
  refine lv_goto (tgt := 4) hx hb dX7_messagesTo_43 (by decide) ?_
  exact hk4 σ x1 x2 v1 hf H locs ls hP hS (lv_sub hl [1, 2, 3, 0] rfl)
def s_cX7_messagesTo_b4 (k4 : RS → Int32 → Int32 → Int32 → Option (Int32 × RS)) (σ : RS) (x1 : Int32) (x2 : Int32) (x3 : Int32) : Option (Int32 × RS) := if (rg_I σ 3) ≤ x3 then (some (x2, σ)) else (kn_ld (rg_A σ 11) 40 x3 (fun v1 => if v1 = 0 then (s_cX7_messagesTo_b40 k4 σ x1 x2 x3) else (kn_ld (rg_A σ 7) 40 x3 (fun v2 => if v2 = x1 then (kn_v (x2 + 1) (fun v3 => s_cX7_messagesTo_b40 k4 σ x1 v3 x3)) else (s_cX7_messagesTo_b40 k4 σ x1 x2 x3)))))
set_option maxRecDepth 100000 in
set_option maxHeartbeats 4000000 in
theorem p_cX7_messagesTo_b4 {p : Program} {l : Launch} {e : Env} {s : State} {m : MethodId} {args : Array Value} {below : List Frame} {meth : Method} {c : Code} {dC : Nat → ClassId} {dI : Nat → Nat → Nat} {kA : Nat → ClassId} {ad : Nat → Nat} (C : jxc cX7_messagesTo (some .int) 4 RX7 p s m args meth c dC dI kA) (hap : jw_ap 57 ad) {res : Int32 × RS} {k4 : RS → Int32 → Int32 → Int32 → Option (Int32 × RS)} (hk4 : G_cX7_messagesTo_b4 p l e s m args below meth c dC dI kA ad res k4) : G_cX7_messagesTo_b4 p l e s m args below meth c dC dI kA ad res (s_cX7_messagesTo_b4 k4) := by
  obtain ⟨hx, hb, hml, hown, hts, hr, hlocks, hK, hN⟩ := id C
  intro σ x1 x2 x3 hf H locs ls hP hS hl
  unfold s_cX7_messagesTo_b4 at hf
  refine lv_iload_n hx hb dX7_messagesTo_4 rfl (lv_at hl 3 rfl) ?_
  refine lv_aload_n hx hb dX7_messagesTo_5 rfl (lv_at hl 0 rfl) ?_
  refine c_gX7_web hx hb hts hown hK hP (hts _ kw_332) dX7_messagesTo_6 ?_
  refine c_gX10_arcs hx hb hts hown hK hP (hts _ kw_141) dX7_messagesTo_9 ?_
  refine jc_ge (tgt := 46) hx hb hf dX7_messagesTo_12 (by decide) (fun hf => ?_) (fun hf => ?_)
  · refine lv_iload_n hx hb dX7_messagesTo_46 rfl (lv_at hl 2 rfl) ?_
    exact jr_i hx hb hr hlocks hf rfl hP hS dX7_messagesTo_47
  · refine lv_aload_n hx hb dX7_messagesTo_15 rfl (lv_at hl 0 rfl) ?_
    refine c_gX7_carries hx hb hts hown hK hP (hts _ kw_338) dX7_messagesTo_16 ?_
    refine lv_iload_n hx hb dX7_messagesTo_19 rfl (lv_at hl 3 rfl) ?_
    refine ja_zld hx hb hK hP 26 2 rfl rfl hf dX7_messagesTo_20 (fun v1 hf => ?_)
    refine jb_eq (tgt := 40) hx hb hf dX7_messagesTo_21 (by decide) (fun hf => ?_) (fun hf => ?_)
    · exact (p_cX7_messagesTo_b40 C hap hk4) σ x1 x2 x3 hf H locs ls hP hS (lv_sub hl [0, 1, 2, 3] rfl)
    · refine lv_aload_n hx hb dX7_messagesTo_24 rfl (lv_at hl 0 rfl) ?_
      refine c_gX7_web hx hb hts hown hK hP (hts _ kw_332) dX7_messagesTo_25 ?_
      refine c_gX10_to hx hb hts hown hK hP (hts _ kw_131) dX7_messagesTo_28 ?_
      refine lv_iload_n hx hb dX7_messagesTo_31 rfl (lv_at hl 3 rfl) ?_
      refine ja_ild hx hb hK hP 12 0 rfl rfl hf dX7_messagesTo_32 (fun v2 hf => ?_)
      refine lv_iload_n hx hb dX7_messagesTo_33 rfl (lv_at hl 1 rfl) ?_
      refine jc_ne (tgt := 40) hx hb hf dX7_messagesTo_34 (by decide) (fun hf => ?_) (fun hf => ?_)
      · exact (p_cX7_messagesTo_b40 C hap hk4) σ x1 x2 x3 hf H locs ls hP hS (lv_sub hl [0, 1, 2, 3] rfl)
      · obtain ⟨v3, e_v3, hf⟩ := kn_v_e hf
        refine lv_iinc (v := v3) (lv' := [(2, .int v3), (0, .ref (ad 24)), (1, .int x1), (3, .int x3)]) hx hb dX7_messagesTo_37 hl (k := 2) rfl e_v3 (by decide) rfl (fun ls hl => ?_)
        exact (p_cX7_messagesTo_b40 C hap hk4) σ x1 v3 x3 hf H locs ls hP hS (lv_sub hl [1, 2, 0, 3] rfl)
def f_cX7_messagesTo_b4 : RS → Int32 → Int32 → Int32 → Option (Int32 × RS) := kn_fix (fun _ _ _ _ => none) (s_cX7_messagesTo_b4) FU
theorem q_cX7_messagesTo_b4 {p : Program} {l : Launch} {e : Env} {s : State} {m : MethodId} {args : Array Value} {below : List Frame} {meth : Method} {c : Code} {dC : Nat → ClassId} {dI : Nat → Nat → Nat} {kA : Nat → ClassId} {ad : Nat → Nat} (C : jxc cX7_messagesTo (some .int) 4 RX7 p s m args meth c dC dI kA) (hap : jw_ap 57 ad) {res : Int32 × RS} : G_cX7_messagesTo_b4 p l e s m args below meth c dC dI kA ad res (f_cX7_messagesTo_b4) := kn_fix_ind (G := fun F => G_cX7_messagesTo_b4 p l e s m args below meth c dC dI kA ad res F) (fun _ _ _ _ hf => by cases hf) (fun k4 hk4 => p_cX7_messagesTo_b4 C hap hk4) FU
def s_cX7_messagesTo (σ : RS) (x1 : Int32) : Option (Int32 × RS) := f_cX7_messagesTo_b4 σ x1 0 0
set_option maxRecDepth 100000 in
set_option maxHeartbeats 4000000 in
theorem p_cX7_messagesTo {p : Program} {l : Launch} {e : Env} {s : State} {m : MethodId} {args : Array Value} {below : List Frame} {meth : Method} {c : Code} {dC : Nat → ClassId} {dI : Nat → Nat → Nat} {kA : Nat → ClassId} {ad : Nat → Nat} (C : jxc cX7_messagesTo (some .int) 4 RX7 p s m args meth c dC dI kA) (hap : jw_ap 57 ad) {res : Int32 × RS} : G_cX7_messagesTo p l e s m args below meth c dC dI kA ad res (s_cX7_messagesTo) := by
  obtain ⟨hx, hb, hml, hown, hts, hr, hlocks, hK, hN⟩ := id C
  intro σ x1 hf H locs ls hP hS hl
  unfold s_cX7_messagesTo at hf
  refine lv_iconst (v := 0) hx hb dX7_messagesTo_0 (by decide) ?_
  refine lv_istore_n (lv' := [(2, .int 0), (0, .ref (ad 24)), (1, .int x1)]) hx hb dX7_messagesTo_1 rfl hl (by decide) rfl (fun ls hl => ?_)
  refine lv_iconst (v := 0) hx hb dX7_messagesTo_2 (by decide) ?_
  refine lv_istore_n (lv' := [(3, .int 0), (2, .int 0), (0, .ref (ad 24)), (1, .int x1)]) hx hb dX7_messagesTo_3 rfl hl (by decide) rfl (fun ls hl => ?_)
  exact (q_cX7_messagesTo_b4 C hap) σ x1 0 0 hf H locs ls hP hS (lv_sub hl [2, 3, 1, 0] rfl)
theorem c_cX7_messagesTo (l : Launch) {dC : Nat → ClassId} {dI : Nat → Nat → Nat} {kA : Nat → ClassId} {ad : Nat → Nat} (hap : jw_ap 57 ad) (σ : RS) (x1 : Int32) (res : Int32 × RS) (hf : s_cX7_messagesTo σ x1 = some res) : jm_i l KW NW (dC, dI) vwCl (jtys kA) (jw_A 57 ad) (c_w kA ad) yX7_messagesTo cX7_messagesTo 4 .int (rm_cX7_messagesTo) [.ref (ad 24), .int x1] σ res := jm_i_of (by decide) (Nat.le_of_ble_eq_true rfl) (fun p e s m below meth c C hP hS ls hl => p_cX7_messagesTo C hap σ x1 hf s.heap [] ls hP hS hl)

def rm_cX7_foldTwo : Room := { frames := 1, cells := 0, slots := 0, locals := 25 }
def G_cX7_foldTwo (p : Program) (l : Launch) (e : Env) (s : State) (m : MethodId) (args : Array Value) (below : List Frame) (meth : Method) (c : Code) (dC : Nat → ClassId) (dI : Nat → Nat → Nat) (kA : Nat → ClassId) (ad : Nat → Nat) (res : Int64 × RS) (F : RS → Int64 → Int64 → Int32 → Option (Int64 × RS)) : Prop := ∀ (σ : RS) (x1 : Int64) (x3 : Int64) (x5 : Int32), F σ x1 x3 x5 = some res → ∀ (H : Heap) (locs : List Loc) (ls : Array Slot), va_P (dC, dI) vwCl (c_w kA ad σ) H → va_S (jw_A 57 ad) s.heap H locs → lv_has ls 8 [(0, .ref (ad 24)), (1, .long x1), (3, .long x3), (5, .int x5)] → W p l e rm_cX7_foldTwo s m args below meth c H locs 0 0 (c_Ql below dC dI kA ad args s res) (F0 m 0 ls [])
def s_cX7_foldTwo (σ : RS) (x1 : Int64) (x3 : Int64) (x5 : Int32) : Option (Int64 × RS) := if (rg_I σ 5) = 1 then (some (if x3 < x1 then x3 else x1, σ)) else (if (rg_I σ 5) = 2 then (some (if x3 < x1 then x1 else x3, σ)) else (if (rg_I σ 5) = 3 then (some (x3, σ)) else (kn_v (x1 + x3) (fun v4 => if 0 ≤ ((x1 ^^^ v4) &&& (x3 ^^^ v4)) then (some (v4, σ)) else (kn_u (s_cX2_keep σ 3 7 x5 (-1) ((rg_I σ 4) + 1)) (fun σ6 => some (v4, σ6)))))))
set_option maxRecDepth 100000 in
set_option maxHeartbeats 4000000 in
theorem p_cX7_foldTwo {p : Program} {l : Launch} {e : Env} {s : State} {m : MethodId} {args : Array Value} {below : List Frame} {meth : Method} {c : Code} {dC : Nat → ClassId} {dI : Nat → Nat → Nat} {kA : Nat → ClassId} {ad : Nat → Nat} (C : jxc cX7_foldTwo (some .long) 8 RX7 p s m args meth c dC dI kA) (hap : jw_ap 57 ad) {res : Int64 × RS} : G_cX7_foldTwo p l e s m args below meth c dC dI kA ad res (s_cX7_foldTwo) := by
  obtain ⟨hx, hb, hml, hown, hts, hr, hlocks, hK, hN⟩ := id C
  intro σ x1 x3 x5 hf H locs ls hP hS hl
  unfold s_cX7_foldTwo at hf
  refine lv_aload_n hx hb dX7_foldTwo_0 rfl (lv_at hl 0 rfl) ?_
  refine c_gX7_actor hx hb hts hown hK hP (hts _ kw_333) dX7_foldTwo_1 ?_
  refine c_gX0_program hx hb hts hown hK hP (hts _ kw_310) dX7_foldTwo_4 ?_
  refine c_gX6_foldSort hx hb hts hown hK hP (hts _ kw_185) dX7_foldTwo_7 ?_
  by_cases c1 : (rg_I σ 5) = 1
  · have hf := kn_t hf c1
    refine lv_tableIn (tgt := 36) hx hb dX7_foldTwo_10 (by rw [c1]; decide) (by rw [c1]; decide) (by rw [c1]; rfl) (by decide) ?_
    refine lv_lload_n hx hb dX7_foldTwo_36 rfl (lv_at hl 1 rfl) ?_
    refine lv_lload_n hx hb dX7_foldTwo_37 rfl (lv_at hl 2 rfl) ?_
    refine va_mmin_long hx hb (hml.trans hl.1.symm) hown (hts _ kw_656) (hts _ kw_657) (hts _ kw_66) (hts _ kw_658) (Nat.le_of_ble_eq_true rfl) (Nat.le_of_ble_eq_true rfl) (Nat.zero_le _) (Nat.zero_le _) dX7_foldTwo_38 ?_
    exact jr_l hx hb hr hlocks hf hP hS dX7_foldTwo_41
  · have hf := kn_f hf c1
    by_cases c2 : (rg_I σ 5) = 2
    · have hf := kn_t hf c2
      refine lv_tableIn (tgt := 42) hx hb dX7_foldTwo_10 (by rw [c2]; decide) (by rw [c2]; decide) (by rw [c2]; rfl) (by decide) ?_
      refine lv_lload_n hx hb dX7_foldTwo_42 rfl (lv_at hl 1 rfl) ?_
      refine lv_lload_n hx hb dX7_foldTwo_43 rfl (lv_at hl 2 rfl) ?_
      refine va_mmax_long hx hb (hml.trans hl.1.symm) hown (hts _ kw_659) (hts _ kw_660) (hts _ kw_66) (hts _ kw_661) (Nat.le_of_ble_eq_true rfl) (Nat.le_of_ble_eq_true rfl) (Nat.zero_le _) (Nat.zero_le _) dX7_foldTwo_44 ?_
      exact jr_l hx hb hr hlocks hf hP hS dX7_foldTwo_47
    · have hf := kn_f hf c2
      by_cases c3 : (rg_I σ 5) = 3
      · have hf := kn_t hf c3
        refine lv_tableIn (tgt := 48) hx hb dX7_foldTwo_10 (by rw [c3]; decide) (by rw [c3]; decide) (by rw [c3]; rfl) (by decide) ?_
        refine lv_lload_n hx hb dX7_foldTwo_48 rfl (lv_at hl 2 rfl) ?_
        exact jr_l hx hb hr hlocks hf hP hS dX7_foldTwo_49
      · have hf := kn_f hf c3
        refine lv_tableOut (tgt := 50) hx hb dX7_foldTwo_10 (by have t0 := lv_neT c1 (a := 1) (by decide); have t1 := lv_neT c2 (a := 2) (by decide); have t2 := lv_neT c3 (a := 3) (by decide); omega) (by decide) ?_
        refine lv_lload_n hx hb dX7_foldTwo_50 rfl (lv_at hl 1 rfl) ?_
        refine lv_lload_n hx hb dX7_foldTwo_51 rfl (lv_at hl 2 rfl) ?_
        refine lv_ladd hx hb dX7_foldTwo_52 ?_
        refine jn_l hf (fun v4 hf => ?_)
        refine lv_lstore (lv' := [(6, .long v4), (0, .ref (ad 24)), (1, .long x1), (3, .long x3), (5, .int x5)]) hx hb dX7_foldTwo_53 hl (by decide) rfl (fun ls hl => ?_)
        refine lv_lload_n hx hb dX7_foldTwo_55 rfl (lv_at hl 2 rfl) ?_
        refine lv_lload hx hb dX7_foldTwo_56 (lv_at hl 0 rfl) ?_
        refine lv_lxor hx hb dX7_foldTwo_58 ?_
        refine lv_lload_n hx hb dX7_foldTwo_59 rfl (lv_at hl 3 rfl) ?_
        refine lv_lload hx hb dX7_foldTwo_60 (lv_at hl 0 rfl) ?_
        refine lv_lxor hx hb dX7_foldTwo_62 ?_
        refine lv_land hx hb dX7_foldTwo_63 ?_
        refine lv_lconst (v := 0) hx hb dX7_foldTwo_64 (by decide) ?_
        refine jl_ge (tgt := 91) hx hb hf dX7_foldTwo_65 dX7_foldTwo_66 (by decide) (fun hf => ?_) (fun hf => ?_)
        · refine lv_lload hx hb dX7_foldTwo_91 (lv_at hl 0 rfl) ?_
          exact jr_l hx hb hr hlocks hf hP hS dX7_foldTwo_93
        · refine lv_aload_n hx hb dX7_foldTwo_69 rfl (lv_at hl 1 rfl) ?_
          refine c_gX7_failure hx hb hts hown hK hP (hts _ kw_334) dX7_foldTwo_70 ?_
          refine lv_iconst (v := 3) hx hb dX7_foldTwo_73 (by decide) ?_
          refine lv_bipush (v := 7) hx hb dX7_foldTwo_74 (by decide) ?_
          refine lv_iload hx hb dX7_foldTwo_76 (lv_at hl 4 rfl) ?_
          refine lv_iconst (v := (-1)) hx hb dX7_foldTwo_78 (by decide) ?_
          refine lv_aload_n hx hb dX7_foldTwo_79 rfl (lv_at hl 1 rfl) ?_
          refine c_gX7_web hx hb hts hown hK hP (hts _ kw_332) dX7_foldTwo_80 ?_
          refine c_gX10_rounds hx hb hts hown hK hP (hts _ kw_145) dX7_foldTwo_83 ?_
          refine lv_iconst (v := 1) hx hb dX7_foldTwo_86 (by decide) ?_
          refine lv_iadd hx hb dX7_foldTwo_87 ?_
          refine jk_u hf (fun res hres => jv_run hx hb hml hown hts hK hN c_hG c_hNW hl.1 (n := 5) (As := [.int 3, .int 7, .int x5, .int (-1), .int ((rg_I σ 4) + 1)]) (rest := []) (c_cX2_keep l hap σ 3 7 x5 (-1) ((rg_I σ 4) + 1) res hres) hP (ci := 2) (q0 := 16) rfl rfl rfl kw_580 kw_662 kw_578 kw_579 kw_56 ⟨rfl, rfl⟩ (by decide +kernel) rfl ⟨Nat.le_of_ble_eq_true rfl, Nat.le_of_ble_eq_true rfl⟩ rfl (Nat.le_of_ble_eq_true rfl) dX7_foldTwo_88) hS (fun σ6 H locs hP hS hf => ?_)
          refine lv_lload hx hb dX7_foldTwo_91 (lv_at hl 0 rfl) ?_
          exact jr_l hx hb hr hlocks hf hP hS dX7_foldTwo_93
theorem c_cX7_foldTwo (l : Launch) {dC : Nat → ClassId} {dI : Nat → Nat → Nat} {kA : Nat → ClassId} {ad : Nat → Nat} (hap : jw_ap 57 ad) (σ : RS) (x1 : Int64) (x3 : Int64) (x5 : Int32) (res : Int64 × RS) (hf : s_cX7_foldTwo σ x1 x3 x5 = some res) : jm_l l KW NW (dC, dI) vwCl (jtys kA) (jw_A 57 ad) (c_w kA ad) yX7_foldTwo cX7_foldTwo 8 (rm_cX7_foldTwo) [.ref (ad 24), .long x1, .long x3, .int x5] σ res := jm_l_of (by decide) (Nat.le_of_ble_eq_true rfl) (fun p e s m below meth c C hP hS ls hl => p_cX7_foldTwo C hap σ x1 x3 x5 hf s.heap [] ls hP hS hl)

def rm_cX7_changeNodes : Room := { frames := 1, cells := 0, slots := 0, locals := 18 }
def G_cX7_changeNodes_b69 (p : Program) (l : Launch) (e : Env) (s : State) (m : MethodId) (args : Array Value) (below : List Frame) (meth : Method) (c : Code) (dC : Nat → ClassId) (dI : Nat → Nat → Nat) (kA : Nat → ClassId) (ad : Nat → Nat) (res : RS) (F : RS → Int32 → Option (RS)) : Prop := ∀ (σ : RS) (x1 : Int32), F σ x1 = some res → ∀ (H : Heap) (locs : List Loc) (ls : Array Slot), va_P (dC, dI) vwCl (c_w kA ad σ) H → va_S (jw_A 57 ad) s.heap H locs → lv_has ls 2 [(0, .ref (ad 24)), (1, .int x1)] → W p l e rm_cX7_changeNodes s m args below meth c H locs 0 0 (c_Qu below dC dI kA ad args s res) (F0 m 69 ls [])
def G_cX7_changeNodes_b68 (p : Program) (l : Launch) (e : Env) (s : State) (m : MethodId) (args : Array Value) (below : List Frame) (meth : Method) (c : Code) (dC : Nat → ClassId) (dI : Nat → Nat → Nat) (kA : Nat → ClassId) (ad : Nat → Nat) (res : RS) (F : RS → Int32 → Int32 → Int32 → Option (RS)) : Prop := ∀ (σ : RS) (x1 : Int32) (s0 : Int32) (s1 : Int32), F σ x1 s0 s1 = some res → ∀ (H : Heap) (locs : List Loc) (ls : Array Slot), va_P (dC, dI) vwCl (c_w kA ad σ) H → va_S (jw_A 57 ad) s.heap H locs → lv_has ls 2 [(0, .ref (ad 24)), (1, .int x1)] → W p l e rm_cX7_changeNodes s m args below meth c H locs 0 0 (c_Qu below dC dI kA ad args s res) (F0 m 68 ls [.int s0, .int s1, .ref (ad 9)])
def G_cX7_changeNodes_b2 (p : Program) (l : Launch) (e : Env) (s : State) (m : MethodId) (args : Array Value) (below : List Frame) (meth : Method) (c : Code) (dC : Nat → ClassId) (dI : Nat → Nat → Nat) (kA : Nat → ClassId) (ad : Nat → Nat) (res : RS) (F : RS → Int32 → Option (RS)) : Prop := ∀ (σ : RS) (x1 : Int32), F σ x1 = some res → ∀ (H : Heap) (locs : List Loc) (ls : Array Slot), va_P (dC, dI) vwCl (c_w kA ad σ) H → va_S (jw_A 57 ad) s.heap H locs → lv_has ls 2 [(0, .ref (ad 24)), (1, .int x1)] → W p l e rm_cX7_changeNodes s m args below meth c H locs 0 0 (c_Qu below dC dI kA ad args s res) (F0 m 2 ls [])
def G_cX7_changeNodes (p : Program) (l : Launch) (e : Env) (s : State) (m : MethodId) (args : Array Value) (below : List Frame) (meth : Method) (c : Code) (dC : Nat → ClassId) (dI : Nat → Nat → Nat) (kA : Nat → ClassId) (ad : Nat → Nat) (res : RS) (F : RS → Option (RS)) : Prop := ∀ (σ : RS), F σ = some res → ∀ (H : Heap) (locs : List Loc) (ls : Array Slot), va_P (dC, dI) vwCl (c_w kA ad σ) H → va_S (jw_A 57 ad) s.heap H locs → lv_has ls 2 [(0, .ref (ad 24))] → W p l e rm_cX7_changeNodes s m args below meth c H locs 0 0 (c_Qu below dC dI kA ad args s res) (F0 m 0 ls [])
def s_cX7_changeNodes_b69 (k2 : RS → Int32 → Option (RS)) (σ : RS) (x1 : Int32) : Option (RS) := kn_v (x1 + 1) (fun v1 => k2 σ v1)
set_option maxRecDepth 100000 in
set_option maxHeartbeats 4000000 in
theorem p_cX7_changeNodes_b69 {p : Program} {l : Launch} {e : Env} {s : State} {m : MethodId} {args : Array Value} {below : List Frame} {meth : Method} {c : Code} {dC : Nat → ClassId} {dI : Nat → Nat → Nat} {kA : Nat → ClassId} {ad : Nat → Nat} (C : jxc cX7_changeNodes none 2 RX7 p s m args meth c dC dI kA) (hap : jw_ap 57 ad) {res : RS} {k2 : RS → Int32 → Option (RS)} (hk2 : G_cX7_changeNodes_b2 p l e s m args below meth c dC dI kA ad res k2) : G_cX7_changeNodes_b69 p l e s m args below meth c dC dI kA ad res (s_cX7_changeNodes_b69 k2) := by
  obtain ⟨hx, hb, hml, hown, hts, hr, hlocks, hK, hN⟩ := id C
  intro σ x1 hf H locs ls hP hS hl
  unfold s_cX7_changeNodes_b69 at hf
  obtain ⟨v1, e_v1, hf⟩ := kn_v_e hf
  refine lv_iinc (v := v1) (lv' := [(1, .int v1), (0, .ref (ad 24))]) hx hb dX7_changeNodes_69 hl (k := 1) rfl e_v1 (by decide) rfl (fun ls hl => ?_)
  refine lv_goto (tgt := 2) hx hb dX7_changeNodes_72 (by decide) ?_
  exact hk2 σ v1 hf H locs ls hP hS (lv_sub hl [1, 0] rfl)
def s_cX7_changeNodes_b68 (k2 : RS → Int32 → Option (RS)) (σ : RS) (x1 : Int32) (s0 : Int32) (s1 : Int32) : Option (RS) := kn_st (rs_A σ 4 (upd (rg_A σ 4) s1.toNatClampNeg (vp_nar .boolean s0))) 12 s1 (fun σ1 => s_cX7_changeNodes_b69 k2 σ1 x1)
set_option maxRecDepth 100000 in
set_option maxHeartbeats 4000000 in
theorem p_cX7_changeNodes_b68 {p : Program} {l : Launch} {e : Env} {s : State} {m : MethodId} {args : Array Value} {below : List Frame} {meth : Method} {c : Code} {dC : Nat → ClassId} {dI : Nat → Nat → Nat} {kA : Nat → ClassId} {ad : Nat → Nat} (C : jxc cX7_changeNodes none 2 RX7 p s m args meth c dC dI kA) (hap : jw_ap 57 ad) {res : RS} {k2 : RS → Int32 → Option (RS)} (hk2 : G_cX7_changeNodes_b2 p l e s m args below meth c dC dI kA ad res k2) : G_cX7_changeNodes_b68 p l e s m args below meth c dC dI kA ad res (s_cX7_changeNodes_b68 k2) := by
  obtain ⟨hx, hb, hml, hown, hts, hr, hlocks, hK, hN⟩ := id C
  intro σ x1 s0 s1 hf H locs ls hP hS hl
  unfold s_cX7_changeNodes_b68 at hf
  refine ja_zst hx hb hK (c_D hap σ) hP hS 9 2 rfl rfl rfl c_sA4 hf dX7_changeNodes_68 (fun σ1 H locs hP hS hf => ?_)
  exact (p_cX7_changeNodes_b69 C hap hk2) σ1 x1 hf H locs ls hP hS (lv_sub hl [0, 1] rfl)
def s_cX7_changeNodes_b2 (k2 : RS → Int32 → Option (RS)) (σ : RS) (x1 : Int32) : Option (RS) := if (rg_I σ 2) ≤ x1 then some σ else (kn_ld (rg_A σ 12) 12 x1 (fun v1 => if v1 = 0 then (s_cX7_changeNodes_b69 k2 σ x1) else (kn_cp 36 36 (x1 * 3) (x1 * 3) (3 : Int32) (rs_B σ 1 (va_cpy (rg_B σ 5) (rg_B σ 1) (x1 * 3).toNatClampNeg (x1 * 3).toNatClampNeg (3 : Int32).toNatClampNeg)) (fun σ2 => kn_ld (rg_A σ2 13) 12 x1 (fun v3 => if v3 = 0 then (s_cX7_changeNodes_b68 k2 σ2 x1 1 x1) else (s_cX7_changeNodes_b68 k2 σ2 x1 0 x1))))))
set_option maxRecDepth 100000 in
set_option maxHeartbeats 4000000 in
theorem p_cX7_changeNodes_b2 {p : Program} {l : Launch} {e : Env} {s : State} {m : MethodId} {args : Array Value} {below : List Frame} {meth : Method} {c : Code} {dC : Nat → ClassId} {dI : Nat → Nat → Nat} {kA : Nat → ClassId} {ad : Nat → Nat} (C : jxc cX7_changeNodes none 2 RX7 p s m args meth c dC dI kA) (hap : jw_ap 57 ad) {res : RS} {k2 : RS → Int32 → Option (RS)} (hk2 : G_cX7_changeNodes_b2 p l e s m args below meth c dC dI kA ad res k2) : G_cX7_changeNodes_b2 p l e s m args below meth c dC dI kA ad res (s_cX7_changeNodes_b2 k2) := by
  obtain ⟨hx, hb, hml, hown, hts, hr, hlocks, hK, hN⟩ := id C
  intro σ x1 hf H locs ls hP hS hl
  unfold s_cX7_changeNodes_b2 at hf
  refine lv_iload_n hx hb dX7_changeNodes_2 rfl (lv_at hl 1 rfl) ?_
  refine lv_aload_n hx hb dX7_changeNodes_3 rfl (lv_at hl 0 rfl) ?_
  refine c_gX7_web hx hb hts hown hK hP (hts _ kw_332) dX7_changeNodes_4 ?_
  refine c_gX10_nodes hx hb hts hown hK hP (hts _ kw_137) dX7_changeNodes_7 ?_
  refine jc_ge (tgt := 75) hx hb hf dX7_changeNodes_10 (by decide) (fun hf => ?_) (fun hf => ?_)
  · exact jr_u hx hb hr hlocks hf hP hS dX7_changeNodes_75
  · refine lv_aload_n hx hb dX7_changeNodes_13 rfl (lv_at hl 0 rfl) ?_
    refine c_gX7_reached hx hb hts hown hK hP (hts _ kw_340) dX7_changeNodes_14 ?_
    refine lv_iload_n hx hb dX7_changeNodes_17 rfl (lv_at hl 1 rfl) ?_
    refine ja_zld hx hb hK hP 28 2 rfl rfl hf dX7_changeNodes_18 (fun v1 hf => ?_)
    refine jb_ne (tgt := 25) hx hb hf dX7_changeNodes_19 (by decide) (fun hf => ?_) (fun hf => ?_)
    · refine lv_aload_n hx hb dX7_changeNodes_25 rfl (lv_at hl 0 rfl) ?_
      refine c_gX7_newStates hx hb hts hown hK hP (hts _ kw_342) dX7_changeNodes_26 ?_
      refine lv_iload_n hx hb dX7_changeNodes_29 rfl (lv_at hl 1 rfl) ?_
      refine lv_iconst (v := 3) hx hb dX7_changeNodes_30 (by decide) ?_
      refine lv_imul hx hb dX7_changeNodes_31 ?_
      refine lv_aload_n hx hb dX7_changeNodes_32 rfl (lv_at hl 0 rfl) ?_
      refine c_gX7_web hx hb hts hown hK hP (hts _ kw_332) dX7_changeNodes_33 ?_
      refine c_gX10_states hx hb hts hown hK hP (hts _ kw_119) dX7_changeNodes_36 ?_
      refine lv_iload_n hx hb dX7_changeNodes_39 rfl (lv_at hl 1 rfl) ?_
      refine lv_iconst (v := 3) hx hb dX7_changeNodes_40 (by decide) ?_
      refine lv_imul hx hb dX7_changeNodes_41 ?_
      refine lv_iconst (v := 3) hx hb dX7_changeNodes_42 (by decide) ?_
      refine ja_cpl hx hb (hml.trans hl.1.symm) hown (hts _ kw_668) (hts _ kw_531) (hts _ kw_530) (hts _ kw_65) hK (c_D hap σ) hP hS 30 8 1 rfl rfl rfl c_sB1 hf (Nat.le_of_ble_eq_true rfl) (Nat.le_of_ble_eq_true rfl) dX7_changeNodes_43 (fun σ2 H locs hP hS hf => ?_)
      refine lv_aload_n hx hb dX7_changeNodes_46 rfl (lv_at hl 0 rfl) ?_
      refine c_gX7_web hx hb hts hown hK hP (hts _ kw_332) dX7_changeNodes_47 ?_
      refine c_gX10_awake hx hb hts hown hK hP (hts _ kw_123) dX7_changeNodes_50 ?_
      refine lv_iload_n hx hb dX7_changeNodes_53 rfl (lv_at hl 1 rfl) ?_
      refine lv_aload_n hx hb dX7_changeNodes_54 rfl (lv_at hl 0 rfl) ?_
      refine c_gX7_halting hx hb hts hown hK hP (hts _ kw_341) dX7_changeNodes_55 ?_
      refine lv_iload_n hx hb dX7_changeNodes_58 rfl (lv_at hl 1 rfl) ?_
      refine ja_zld hx hb hK hP 29 2 rfl rfl hf dX7_changeNodes_59 (fun v3 hf => ?_)
      refine jb_ne (tgt := 67) hx hb hf dX7_changeNodes_60 (by decide) (fun hf => ?_) (fun hf => ?_)
      · refine lv_iconst (v := 0) hx hb dX7_changeNodes_67 (by decide) ?_
        exact (p_cX7_changeNodes_b68 C hap hk2) σ2 x1 0 x1 hf H locs ls hP hS (lv_sub hl [0, 1] rfl)
      · refine lv_iconst (v := 1) hx hb dX7_changeNodes_63 (by decide) ?_
        refine lv_goto (tgt := 68) hx hb dX7_changeNodes_64 (by decide) ?_
        exact (p_cX7_changeNodes_b68 C hap hk2) σ2 x1 1 x1 hf H locs ls hP hS (lv_sub hl [0, 1] rfl)
    · refine lv_goto (tgt := 69) hx hb dX7_changeNodes_22 (by decide) ?_
      exact (p_cX7_changeNodes_b69 C hap hk2) σ x1 hf H locs ls hP hS (lv_sub hl [0, 1] rfl)
def f_cX7_changeNodes_b2 : RS → Int32 → Option (RS) := kn_fix (fun _ _ => none) (s_cX7_changeNodes_b2) FU
theorem q_cX7_changeNodes_b2 {p : Program} {l : Launch} {e : Env} {s : State} {m : MethodId} {args : Array Value} {below : List Frame} {meth : Method} {c : Code} {dC : Nat → ClassId} {dI : Nat → Nat → Nat} {kA : Nat → ClassId} {ad : Nat → Nat} (C : jxc cX7_changeNodes none 2 RX7 p s m args meth c dC dI kA) (hap : jw_ap 57 ad) {res : RS} : G_cX7_changeNodes_b2 p l e s m args below meth c dC dI kA ad res (f_cX7_changeNodes_b2) := kn_fix_ind (G := fun F => G_cX7_changeNodes_b2 p l e s m args below meth c dC dI kA ad res F) (fun _ _ hf => by cases hf) (fun k2 hk2 => p_cX7_changeNodes_b2 C hap hk2) FU
def s_cX7_changeNodes (σ : RS) : Option (RS) := f_cX7_changeNodes_b2 σ 0
set_option maxRecDepth 100000 in
set_option maxHeartbeats 4000000 in
theorem p_cX7_changeNodes {p : Program} {l : Launch} {e : Env} {s : State} {m : MethodId} {args : Array Value} {below : List Frame} {meth : Method} {c : Code} {dC : Nat → ClassId} {dI : Nat → Nat → Nat} {kA : Nat → ClassId} {ad : Nat → Nat} (C : jxc cX7_changeNodes none 2 RX7 p s m args meth c dC dI kA) (hap : jw_ap 57 ad) {res : RS} : G_cX7_changeNodes p l e s m args below meth c dC dI kA ad res (s_cX7_changeNodes) := by
  obtain ⟨hx, hb, hml, hown, hts, hr, hlocks, hK, hN⟩ := id C
  intro σ hf H locs ls hP hS hl
  unfold s_cX7_changeNodes at hf
  refine lv_iconst (v := 0) hx hb dX7_changeNodes_0 (by decide) ?_
  refine lv_istore_n (lv' := [(1, .int 0), (0, .ref (ad 24))]) hx hb dX7_changeNodes_1 rfl hl (by decide) rfl (fun ls hl => ?_)
  exact (q_cX7_changeNodes_b2 C hap) σ 0 hf H locs ls hP hS (lv_sub hl [1, 0] rfl)
theorem c_cX7_changeNodes (l : Launch) {dC : Nat → ClassId} {dI : Nat → Nat → Nat} {kA : Nat → ClassId} {ad : Nat → Nat} (hap : jw_ap 57 ad) (σ : RS) (res : RS) (hf : s_cX7_changeNodes σ = some res) : jm_u l KW NW (dC, dI) vwCl (jtys kA) (jw_A 57 ad) (c_w kA ad) yX7_changeNodes cX7_changeNodes 2 (rm_cX7_changeNodes) [.ref (ad 24)] σ res := jm_u_of (by decide) (Nat.le_of_ble_eq_true rfl) (fun p e s m below meth c C hP hS ls hl => p_cX7_changeNodes C hap σ hf s.heap [] ls hP hS hl)

def rm_cX8_has : Room := { frames := 0, cells := 0, slots := 0, locals := 0 }
def G_cX8_has (p : Program) (l : Launch) (e : Env) (s : State) (m : MethodId) (args : Array Value) (below : List Frame) (meth : Method) (c : Code) (dC : Nat → ClassId) (dI : Nat → Nat → Nat) (kA : Nat → ClassId) (ad : Nat → Nat) (res : Int32 × RS) (F : RS → Int32 → Option (Int32 × RS)) : Prop := ∀ (σ : RS) (x1 : Int32), F σ x1 = some res → ∀ (H : Heap) (locs : List Loc) (ls : Array Slot), va_P (dC, dI) vwCl (c_w kA ad σ) H → va_S (jw_A 57 ad) s.heap H locs → lv_has ls 2 [(0, .ref (ad 1)), (1, .int x1)] → W p l e rm_cX8_has s m args below meth c H locs 0 0 (c_Qi below dC dI kA ad args s res) (F0 m 0 ls [])
def s_cX8_has (σ : RS) (x1 : Int32) : Option (Int32 × RS) := if x1 < 0 then (some (0, σ)) else (if (rg_I σ 1) ≤ x1 then (some (0, σ)) else (some (1, σ)))
set_option maxRecDepth 100000 in
set_option maxHeartbeats 4000000 in
theorem p_cX8_has {p : Program} {l : Launch} {e : Env} {s : State} {m : MethodId} {args : Array Value} {below : List Frame} {meth : Method} {c : Code} {dC : Nat → ClassId} {dI : Nat → Nat → Nat} {kA : Nat → ClassId} {ad : Nat → Nat} (C : jxc cX8_has (some .boolean) 2 RX8 p s m args meth c dC dI kA) (hap : jw_ap 57 ad) {res : Int32 × RS} : G_cX8_has p l e s m args below meth c dC dI kA ad res (s_cX8_has) := by
  obtain ⟨hx, hb, hml, hown, hts, hr, hlocks, hK, hN⟩ := id C
  intro σ x1 hf H locs ls hP hS hl
  unfold s_cX8_has at hf
  refine lv_iload_n hx hb dX8_has_0 rfl (lv_at hl 1 rfl) ?_
  refine jb_lt (tgt := 16) hx hb hf dX8_has_1 (by decide) (fun hf => ?_) (fun hf => ?_)
  · refine lv_iconst (v := 0) hx hb dX8_has_16 (by decide) ?_
    exact jr_i hx hb hr hlocks hf (by decide) hP hS dX8_has_17
  · refine lv_iload_n hx hb dX8_has_4 rfl (lv_at hl 1 rfl) ?_
    refine lv_aload_n hx hb dX8_has_5 rfl (lv_at hl 0 rfl) ?_
    refine c_gX8_size hx hb hts hown hK hP (hts _ kw_91) dX8_has_6 ?_
    refine jc_ge (tgt := 16) hx hb hf dX8_has_9 (by decide) (fun hf => ?_) (fun hf => ?_)
    · refine lv_iconst (v := 0) hx hb dX8_has_16 (by decide) ?_
      exact jr_i hx hb hr hlocks hf (by decide) hP hS dX8_has_17
    · refine lv_iconst (v := 1) hx hb dX8_has_12 (by decide) ?_
      refine lv_goto (tgt := 17) hx hb dX8_has_13 (by decide) ?_
      exact jr_i hx hb hr hlocks hf (by decide) hP hS dX8_has_17
theorem c_cX8_has (l : Launch) {dC : Nat → ClassId} {dI : Nat → Nat → Nat} {kA : Nat → ClassId} {ad : Nat → Nat} (hap : jw_ap 57 ad) (σ : RS) (x1 : Int32) (res : Int32 × RS) (hf : s_cX8_has σ x1 = some res) : jm_i l KW NW (dC, dI) vwCl (jtys kA) (jw_A 57 ad) (c_w kA ad) yX8_has cX8_has 2 .boolean (rm_cX8_has) [.ref (ad 1), .int x1] σ res := jm_i_of (by decide) (Nat.le_of_ble_eq_true rfl) (fun p e s m below meth c C hP hS ls hl => p_cX8_has C hap σ x1 hf s.heap [] ls hP hS hl)

def rm_cX8_partsOf : Room := { frames := 0, cells := 0, slots := 0, locals := 0 }
def G_cX8_partsOf (p : Program) (l : Launch) (e : Env) (s : State) (m : MethodId) (args : Array Value) (below : List Frame) (meth : Method) (c : Code) (dC : Nat → ClassId) (dI : Nat → Nat → Nat) (kA : Nat → ClassId) (ad : Nat → Nat) (res : Int32 × RS) (F : RS → Int32 → Option (Int32 × RS)) : Prop := ∀ (σ : RS) (x0 : Int32), F σ x0 = some res → ∀ (H : Heap) (locs : List Loc) (ls : Array Slot), va_P (dC, dI) vwCl (c_w kA ad σ) H → va_S (jw_A 57 ad) s.heap H locs → lv_has ls 1 [(0, .int x0)] → W p l e rm_cX8_partsOf s m args below meth c H locs 0 0 (c_Qi below dC dI kA ad args s res) (F0 m 0 ls [])
def s_cX8_partsOf (σ : RS) (x0 : Int32) : Option (Int32 × RS) := if 8 ≤ x0 then (if x0 = 16 then (some (3, σ)) else (if x0 = 17 then (some (1, σ)) else (some (2, σ)))) else (some (0, σ))
set_option maxRecDepth 100000 in
set_option maxHeartbeats 4000000 in
theorem p_cX8_partsOf {p : Program} {l : Launch} {e : Env} {s : State} {m : MethodId} {args : Array Value} {below : List Frame} {meth : Method} {c : Code} {dC : Nat → ClassId} {dI : Nat → Nat → Nat} {kA : Nat → ClassId} {ad : Nat → Nat} (C : jxc cX8_partsOf (some .int) 1 RX8 p s m args meth c dC dI kA) (hap : jw_ap 57 ad) {res : Int32 × RS} : G_cX8_partsOf p l e s m args below meth c dC dI kA ad res (s_cX8_partsOf) := by
  obtain ⟨hx, hb, hml, hown, hts, hr, hlocks, hK, hN⟩ := id C
  intro σ x0 hf H locs ls hP hS hl
  unfold s_cX8_partsOf at hf
  refine lv_iload_n hx hb dX8_partsOf_0 rfl (lv_at hl 0 rfl) ?_
  refine lv_bipush (v := 8) hx hb dX8_partsOf_1 (by decide) ?_
  refine jc_ge (tgt := 8) hx hb hf dX8_partsOf_3 (by decide) (fun hf => ?_) (fun hf => ?_)
  · refine lv_iload_n hx hb dX8_partsOf_8 rfl (lv_at hl 0 rfl) ?_
    refine lv_bipush (v := 16) hx hb dX8_partsOf_9 (by decide) ?_
    refine jc_ne (tgt := 16) hx hb hf dX8_partsOf_11 (by decide) (fun hf => ?_) (fun hf => ?_)
    · refine lv_iload_n hx hb dX8_partsOf_16 rfl (lv_at hl 0 rfl) ?_
      refine lv_bipush (v := 17) hx hb dX8_partsOf_17 (by decide) ?_
      refine jc_ne (tgt := 26) hx hb hf dX8_partsOf_19 (by decide) (fun hf => ?_) (fun hf => ?_)
      · refine lv_iconst (v := 2) hx hb dX8_partsOf_26 (by decide) ?_
        exact jr_i hx hb hr hlocks hf rfl hP hS dX8_partsOf_27
      · refine lv_iconst (v := 1) hx hb dX8_partsOf_22 (by decide) ?_
        refine lv_goto (tgt := 27) hx hb dX8_partsOf_23 (by decide) ?_
        exact jr_i hx hb hr hlocks hf rfl hP hS dX8_partsOf_27
    · refine lv_iconst (v := 3) hx hb dX8_partsOf_14 (by decide) ?_
      exact jr_i hx hb hr hlocks hf rfl hP hS dX8_partsOf_15
  · refine lv_iconst (v := 0) hx hb dX8_partsOf_6 (by decide) ?_
    exact jr_i hx hb hr hlocks hf rfl hP hS dX8_partsOf_7
theorem c_cX8_partsOf (l : Launch) {dC : Nat → ClassId} {dI : Nat → Nat → Nat} {kA : Nat → ClassId} {ad : Nat → Nat} (hap : jw_ap 57 ad) (σ : RS) (x0 : Int32) (res : Int32 × RS) (hf : s_cX8_partsOf σ x0 = some res) : jm_i l KW NW (dC, dI) vwCl (jtys kA) (jw_A 57 ad) (c_w kA ad) yX8_partsOf cX8_partsOf 1 .int (rm_cX8_partsOf) [.int x0] σ res := jm_i_of (by decide) (Nat.le_of_ble_eq_true rfl) (fun p e s m below meth c C hP hS ls hl => p_cX8_partsOf C hap σ x0 hf s.heap [] ls hP hS hl)

def rm_cX9_has : Room := { frames := 0, cells := 0, slots := 0, locals := 0 }
def G_cX9_has (p : Program) (l : Launch) (e : Env) (s : State) (m : MethodId) (args : Array Value) (below : List Frame) (meth : Method) (c : Code) (dC : Nat → ClassId) (dI : Nat → Nat → Nat) (kA : Nat → ClassId) (ad : Nat → Nat) (res : Int32 × RS) (F : RS → Int32 → Option (Int32 × RS)) : Prop := ∀ (σ : RS) (x1 : Int32), F σ x1 = some res → ∀ (H : Heap) (locs : List Loc) (ls : Array Slot), va_P (dC, dI) vwCl (c_w kA ad σ) H → va_S (jw_A 57 ad) s.heap H locs → lv_has ls 2 [(0, .ref (ad 19)), (1, .int x1)] → W p l e rm_cX9_has s m args below meth c H locs 0 0 (c_Qi below dC dI kA ad args s res) (F0 m 0 ls [])
def s_cX9_has (σ : RS) (x1 : Int32) : Option (Int32 × RS) := if x1 < 0 then (some (0, σ)) else (if (rg_I σ 13) ≤ x1 then (some (0, σ)) else (some (1, σ)))
set_option maxRecDepth 100000 in
set_option maxHeartbeats 4000000 in
theorem p_cX9_has {p : Program} {l : Launch} {e : Env} {s : State} {m : MethodId} {args : Array Value} {below : List Frame} {meth : Method} {c : Code} {dC : Nat → ClassId} {dI : Nat → Nat → Nat} {kA : Nat → ClassId} {ad : Nat → Nat} (C : jxc cX9_has (some .boolean) 2 RX9 p s m args meth c dC dI kA) (hap : jw_ap 57 ad) {res : Int32 × RS} : G_cX9_has p l e s m args below meth c dC dI kA ad res (s_cX9_has) := by
  obtain ⟨hx, hb, hml, hown, hts, hr, hlocks, hK, hN⟩ := id C
  intro σ x1 hf H locs ls hP hS hl
  unfold s_cX9_has at hf
  refine lv_iload_n hx hb dX9_has_0 rfl (lv_at hl 1 rfl) ?_
  refine jb_lt (tgt := 16) hx hb hf dX9_has_1 (by decide) (fun hf => ?_) (fun hf => ?_)
  · refine lv_iconst (v := 0) hx hb dX9_has_16 (by decide) ?_
    exact jr_i hx hb hr hlocks hf (by decide) hP hS dX9_has_17
  · refine lv_iload_n hx hb dX9_has_4 rfl (lv_at hl 1 rfl) ?_
    refine lv_aload_n hx hb dX9_has_5 rfl (lv_at hl 0 rfl) ?_
    refine c_gX9_size hx hb hts hown hK hP (hts _ kw_260) dX9_has_6 ?_
    refine jc_ge (tgt := 16) hx hb hf dX9_has_9 (by decide) (fun hf => ?_) (fun hf => ?_)
    · refine lv_iconst (v := 0) hx hb dX9_has_16 (by decide) ?_
      exact jr_i hx hb hr hlocks hf (by decide) hP hS dX9_has_17
    · refine lv_iconst (v := 1) hx hb dX9_has_12 (by decide) ?_
      refine lv_goto (tgt := 17) hx hb dX9_has_13 (by decide) ?_
      exact jr_i hx hb hr hlocks hf (by decide) hP hS dX9_has_17
theorem c_cX9_has (l : Launch) {dC : Nat → ClassId} {dI : Nat → Nat → Nat} {kA : Nat → ClassId} {ad : Nat → Nat} (hap : jw_ap 57 ad) (σ : RS) (x1 : Int32) (res : Int32 × RS) (hf : s_cX9_has σ x1 = some res) : jm_i l KW NW (dC, dI) vwCl (jtys kA) (jw_A 57 ad) (c_w kA ad) yX9_has cX9_has 2 .boolean (rm_cX9_has) [.ref (ad 19), .int x1] σ res := jm_i_of (by decide) (Nat.le_of_ble_eq_true rfl) (fun p e s m below meth c C hP hS ls hl => p_cX9_has C hap σ x1 hf s.heap [] ls hP hS hl)

def rm_cX9_clear : Room := { frames := 0, cells := 0, slots := 0, locals := 0 }
def G_cX9_clear (p : Program) (l : Launch) (e : Env) (s : State) (m : MethodId) (args : Array Value) (below : List Frame) (meth : Method) (c : Code) (dC : Nat → ClassId) (dI : Nat → Nat → Nat) (kA : Nat → ClassId) (ad : Nat → Nat) (res : RS) (F : RS → Option (RS)) : Prop := ∀ (σ : RS), F σ = some res → ∀ (H : Heap) (locs : List Loc) (ls : Array Slot), va_P (dC, dI) vwCl (c_w kA ad σ) H → va_S (jw_A 57 ad) s.heap H locs → lv_has ls 1 [(0, .ref (ad 19))] → W p l e rm_cX9_clear s m args below meth c H locs 0 0 (c_Qu below dC dI kA ad args s res) (F0 m 0 ls [])
def s_cX9_clear (σ : RS) : Option (RS) := kn_v (rs_I σ 13 0) (fun σ1 => some σ1)
set_option maxRecDepth 100000 in
set_option maxHeartbeats 4000000 in
theorem p_cX9_clear {p : Program} {l : Launch} {e : Env} {s : State} {m : MethodId} {args : Array Value} {below : List Frame} {meth : Method} {c : Code} {dC : Nat → ClassId} {dI : Nat → Nat → Nat} {kA : Nat → ClassId} {ad : Nat → Nat} (C : jxc cX9_clear none 1 RX9 p s m args meth c dC dI kA) (hap : jw_ap 57 ad) {res : RS} : G_cX9_clear p l e s m args below meth c dC dI kA ad res (s_cX9_clear) := by
  obtain ⟨hx, hb, hml, hown, hts, hr, hlocks, hK, hN⟩ := id C
  intro σ hf H locs ls hP hS hl
  unfold s_cX9_clear at hf
  refine lv_aload_n hx hb dX9_clear_0 rfl (lv_at hl 0 rfl) ?_
  refine lv_iconst (v := 0) hx hb dX9_clear_1 (by decide) ?_
  refine c_pX9_size hx hb hts hown hK hap hP hS hf (hts _ kw_260) dX9_clear_2 (fun σ1 H locs hP hS hf => ?_)
  exact jr_u hx hb hr hlocks hf hP hS dX9_clear_5
theorem c_cX9_clear (l : Launch) {dC : Nat → ClassId} {dI : Nat → Nat → Nat} {kA : Nat → ClassId} {ad : Nat → Nat} (hap : jw_ap 57 ad) (σ : RS) (res : RS) (hf : s_cX9_clear σ = some res) : jm_u l KW NW (dC, dI) vwCl (jtys kA) (jw_A 57 ad) (c_w kA ad) yX9_clear cX9_clear 1 (rm_cX9_clear) [.ref (ad 19)] σ res := jm_u_of (by decide) (Nat.le_of_ble_eq_true rfl) (fun p e s m below meth c C hP hS ls hl => p_cX9_clear C hap σ hf s.heap [] ls hP hS hl)

def rm_cX9_add : Room := { frames := 0, cells := 0, slots := 0, locals := 0 }
def G_cX9_add (p : Program) (l : Launch) (e : Env) (s : State) (m : MethodId) (args : Array Value) (below : List Frame) (meth : Method) (c : Code) (dC : Nat → ClassId) (dI : Nat → Nat → Nat) (kA : Nat → ClassId) (ad : Nat → Nat) (res : RS) (F : RS → Int32 → Int64 → Option (RS)) : Prop := ∀ (σ : RS) (x1 : Int32) (x2 : Int64), F σ x1 x2 = some res → ∀ (H : Heap) (locs : List Loc) (ls : Array Slot), va_P (dC, dI) vwCl (c_w kA ad σ) H → va_S (jw_A 57 ad) s.heap H locs → lv_has ls 4 [(0, .ref (ad 19)), (1, .int x1), (2, .long x2)] → W p l e rm_cX9_add s m args below meth c H locs 0 0 (c_Qu below dC dI kA ad args s res) (F0 m 0 ls [])
def s_cX9_add (σ : RS) (x1 : Int32) (x2 : Int64) : Option (RS) := if (rg_I σ 13) < 200 then (kn_st (rs_A σ 9 (upd (rg_A σ 9) (rg_I σ 13).toNatClampNeg x1)) 200 (rg_I σ 13) (fun σ1 => kn_st (rs_B σ1 3 (vp_updL (rg_B σ1 3) (rg_I σ1 13).toNatClampNeg x2)) 200 (rg_I σ1 13) (fun σ2 => kn_v (rs_I σ2 13 ((rg_I σ2 13) + 1)) (fun σ3 => some σ3)))) else some σ
set_option maxRecDepth 100000 in
set_option maxHeartbeats 4000000 in
theorem p_cX9_add {p : Program} {l : Launch} {e : Env} {s : State} {m : MethodId} {args : Array Value} {below : List Frame} {meth : Method} {c : Code} {dC : Nat → ClassId} {dI : Nat → Nat → Nat} {kA : Nat → ClassId} {ad : Nat → Nat} (C : jxc cX9_add none 4 RX9 p s m args meth c dC dI kA) (hap : jw_ap 57 ad) {res : RS} : G_cX9_add p l e s m args below meth c dC dI kA ad res (s_cX9_add) := by
  obtain ⟨hx, hb, hml, hown, hts, hr, hlocks, hK, hN⟩ := id C
  intro σ x1 x2 hf H locs ls hP hS hl
  unfold s_cX9_add at hf
  refine lv_aload_n hx hb dX9_add_0 rfl (lv_at hl 0 rfl) ?_
  refine c_gX9_size hx hb hts hown hK hP (hts _ kw_260) dX9_add_1 ?_
  refine lv_sipush (v := 200) hx hb dX9_add_4 (by decide) ?_
  refine jc_lt (tgt := 11) hx hb hf dX9_add_7 (by decide) (fun hf => ?_) (fun hf => ?_)
  · refine lv_aload_n hx hb dX9_add_11 rfl (lv_at hl 0 rfl) ?_
    refine c_gX9_arcs hx hb hts hown hK hP (hts _ kw_256) dX9_add_12 ?_
    refine lv_aload_n hx hb dX9_add_15 rfl (lv_at hl 0 rfl) ?_
    refine c_gX9_size hx hb hts hown hK hP (hts _ kw_260) dX9_add_16 ?_
    refine lv_iload_n hx hb dX9_add_19 rfl (lv_at hl 1 rfl) ?_
    refine ja_ist hx hb hK (c_D hap σ) hP hS 20 0 rfl rfl c_sA9 hf dX9_add_20 (fun σ1 H locs hP hS hf => ?_)
    refine lv_aload_n hx hb dX9_add_21 rfl (lv_at hl 0 rfl) ?_
    refine c_gX9_values hx hb hts hown hK hP (hts _ kw_258) dX9_add_22 ?_
    refine lv_aload_n hx hb dX9_add_25 rfl (lv_at hl 0 rfl) ?_
    refine c_gX9_size hx hb hts hown hK hP (hts _ kw_260) dX9_add_26 ?_
    refine lv_lload_n hx hb dX9_add_29 rfl (lv_at hl 2 rfl) ?_
    refine ja_lst hx hb hK (c_D hap σ1) hP hS 21 1 rfl rfl c_sB3 hf dX9_add_30 (fun σ2 H locs hP hS hf => ?_)
    refine lv_aload_n hx hb dX9_add_31 rfl (lv_at hl 0 rfl) ?_
    refine lv_dup hx hb dX9_add_32 rfl ?_
    refine c_gX9_size hx hb hts hown hK hP (hts _ kw_260) dX9_add_33 ?_
    refine lv_iconst (v := 1) hx hb dX9_add_36 (by decide) ?_
    refine lv_iadd hx hb dX9_add_37 ?_
    refine c_pX9_size hx hb hts hown hK hap hP hS hf (hts _ kw_260) dX9_add_38 (fun σ3 H locs hP hS hf => ?_)
    exact jr_u hx hb hr hlocks hf hP hS dX9_add_41
  · exact jr_u hx hb hr hlocks hf hP hS dX9_add_10
theorem c_cX9_add (l : Launch) {dC : Nat → ClassId} {dI : Nat → Nat → Nat} {kA : Nat → ClassId} {ad : Nat → Nat} (hap : jw_ap 57 ad) (σ : RS) (x1 : Int32) (x2 : Int64) (res : RS) (hf : s_cX9_add σ x1 x2 = some res) : jm_u l KW NW (dC, dI) vwCl (jtys kA) (jw_A 57 ad) (c_w kA ad) yX9_add cX9_add 4 (rm_cX9_add) [.ref (ad 19), .int x1, .long x2] σ res := jm_u_of (by decide) (Nat.le_of_ble_eq_true rfl) (fun p e s m below meth c C hP hS ls hl => p_cX9_add C hap σ x1 x2 hf s.heap [] ls hP hS hl)

def rm_cX10_hasNode : Room := { frames := 0, cells := 0, slots := 0, locals := 0 }
def G_cX10_hasNode (p : Program) (l : Launch) (e : Env) (s : State) (m : MethodId) (args : Array Value) (below : List Frame) (meth : Method) (c : Code) (dC : Nat → ClassId) (dI : Nat → Nat → Nat) (kA : Nat → ClassId) (ad : Nat → Nat) (res : Int32 × RS) (F : RS → Int32 → Option (Int32 × RS)) : Prop := ∀ (σ : RS) (x1 : Int32), F σ x1 = some res → ∀ (H : Heap) (locs : List Loc) (ls : Array Slot), va_P (dC, dI) vwCl (c_w kA ad σ) H → va_S (jw_A 57 ad) s.heap H locs → lv_has ls 2 [(0, .ref (ad 7)), (1, .int x1)] → W p l e rm_cX10_hasNode s m args below meth c H locs 0 0 (c_Qi below dC dI kA ad args s res) (F0 m 0 ls [])
def s_cX10_hasNode (σ : RS) (x1 : Int32) : Option (Int32 × RS) := if x1 < 0 then (some (0, σ)) else (if (rg_I σ 2) ≤ x1 then (some (0, σ)) else (some (1, σ)))
set_option maxRecDepth 100000 in
set_option maxHeartbeats 4000000 in
theorem p_cX10_hasNode {p : Program} {l : Launch} {e : Env} {s : State} {m : MethodId} {args : Array Value} {below : List Frame} {meth : Method} {c : Code} {dC : Nat → ClassId} {dI : Nat → Nat → Nat} {kA : Nat → ClassId} {ad : Nat → Nat} (C : jxc cX10_hasNode (some .boolean) 2 RX10 p s m args meth c dC dI kA) (hap : jw_ap 57 ad) {res : Int32 × RS} : G_cX10_hasNode p l e s m args below meth c dC dI kA ad res (s_cX10_hasNode) := by
  obtain ⟨hx, hb, hml, hown, hts, hr, hlocks, hK, hN⟩ := id C
  intro σ x1 hf H locs ls hP hS hl
  unfold s_cX10_hasNode at hf
  refine lv_iload_n hx hb dX10_hasNode_0 rfl (lv_at hl 1 rfl) ?_
  refine jb_lt (tgt := 16) hx hb hf dX10_hasNode_1 (by decide) (fun hf => ?_) (fun hf => ?_)
  · refine lv_iconst (v := 0) hx hb dX10_hasNode_16 (by decide) ?_
    exact jr_i hx hb hr hlocks hf (by decide) hP hS dX10_hasNode_17
  · refine lv_iload_n hx hb dX10_hasNode_4 rfl (lv_at hl 1 rfl) ?_
    refine lv_aload_n hx hb dX10_hasNode_5 rfl (lv_at hl 0 rfl) ?_
    refine c_gX10_nodes hx hb hts hown hK hP (hts _ kw_135) dX10_hasNode_6 ?_
    refine jc_ge (tgt := 16) hx hb hf dX10_hasNode_9 (by decide) (fun hf => ?_) (fun hf => ?_)
    · refine lv_iconst (v := 0) hx hb dX10_hasNode_16 (by decide) ?_
      exact jr_i hx hb hr hlocks hf (by decide) hP hS dX10_hasNode_17
    · refine lv_iconst (v := 1) hx hb dX10_hasNode_12 (by decide) ?_
      refine lv_goto (tgt := 17) hx hb dX10_hasNode_13 (by decide) ?_
      exact jr_i hx hb hr hlocks hf (by decide) hP hS dX10_hasNode_17
theorem c_cX10_hasNode (l : Launch) {dC : Nat → ClassId} {dI : Nat → Nat → Nat} {kA : Nat → ClassId} {ad : Nat → Nat} (hap : jw_ap 57 ad) (σ : RS) (x1 : Int32) (res : Int32 × RS) (hf : s_cX10_hasNode σ x1 = some res) : jm_i l KW NW (dC, dI) vwCl (jtys kA) (jw_A 57 ad) (c_w kA ad) yX10_hasNode cX10_hasNode 2 .boolean (rm_cX10_hasNode) [.ref (ad 7), .int x1] σ res := jm_i_of (by decide) (Nat.le_of_ble_eq_true rfl) (fun p e s m below meth c C hP hS ls hl => p_cX10_hasNode C hap σ x1 hf s.heap [] ls hP hS hl)
