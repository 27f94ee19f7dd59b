theorem dX7_askNodes_0 : decode cX7_askNodes 0 = .ok (.iconst 0, 1) := by decide +kernel
theorem dX7_askNodes_1 : decode cX7_askNodes 1 = .ok (.istore_n 1, 1) := by decide +kernel
theorem dX7_askNodes_2 : decode cX7_askNodes 2 = .ok (.iload_n 1, 1) := by decide +kernel
theorem dX7_askNodes_3 : decode cX7_askNodes 3 = .ok (.aload_n 0, 1) := by decide +kernel
theorem dX7_askNodes_4 : decode cX7_askNodes 4 = .ok (.getfield 38, 3) := by decide +kernel
theorem dX7_askNodes_7 : decode cX7_askNodes 7 = .ok (.getfield 123, 3) := by decide +kernel
theorem dX7_askNodes_10 : decode cX7_askNodes 10 = .ok (.if_icmp .ge 68, 3) := by decide +kernel
theorem dX7_askNodes_13 : decode cX7_askNodes 13 = .ok (.aload_n 0, 1) := by decide +kernel
theorem dX7_askNodes_14 : decode cX7_askNodes 14 = .ok (.iload_n 1, 1) := by decide +kernel
theorem dX7_askNodes_15 : decode cX7_askNodes 15 = .ok (.invokevirtual 140, 3) := by decide +kernel
theorem dX7_askNodes_18 : decode cX7_askNodes 18 = .ok (.istore_n 2, 1) := by decide +kernel
theorem dX7_askNodes_19 : decode cX7_askNodes 19 = .ok (.aload_n 0, 1) := by decide +kernel
theorem dX7_askNodes_20 : decode cX7_askNodes 20 = .ok (.getfield 23, 3) := by decide +kernel
theorem dX7_askNodes_23 : decode cX7_askNodes 23 = .ok (.iload_n 1, 1) := by decide +kernel
theorem dX7_askNodes_24 : decode cX7_askNodes 24 = .ok (.aload_n 0, 1) := by decide +kernel
theorem dX7_askNodes_25 : decode cX7_askNodes 25 = .ok (.getfield 38, 3) := by decide +kernel
theorem dX7_askNodes_28 : decode cX7_askNodes 28 = .ok (.getfield 129, 3) := by decide +kernel
theorem dX7_askNodes_31 : decode cX7_askNodes 31 = .ok (.iload_n 1, 1) := by decide +kernel
theorem dX7_askNodes_32 : decode cX7_askNodes 32 = .ok (.baload, 1) := by decide +kernel
theorem dX7_askNodes_33 : decode cX7_askNodes 33 = .ok (.ifCond .ne 7, 3) := by decide +kernel
theorem dX7_askNodes_36 : decode cX7_askNodes 36 = .ok (.iload_n 2, 1) := by decide +kernel
theorem dX7_askNodes_37 : decode cX7_askNodes 37 = .ok (.ifCond .le 7, 3) := by decide +kernel
theorem dX7_askNodes_40 : decode cX7_askNodes 40 = .ok (.iconst 1, 1) := by decide +kernel
theorem dX7_askNodes_41 : decode cX7_askNodes 41 = .ok (.goto 4, 3) := by decide +kernel
theorem dX7_askNodes_44 : decode cX7_askNodes 44 = .ok (.iconst 0, 1) := by decide +kernel
theorem dX7_askNodes_45 : decode cX7_askNodes 45 = .ok (.bastore, 1) := by decide +kernel
theorem dX7_askNodes_46 : decode cX7_askNodes 46 = .ok (.aload_n 0, 1) := by decide +kernel
theorem dX7_askNodes_47 : decode cX7_askNodes 47 = .ok (.getfield 23, 3) := by decide +kernel
theorem dX7_askNodes_50 : decode cX7_askNodes 50 = .ok (.iload_n 1, 1) := by decide +kernel
theorem dX7_askNodes_51 : decode cX7_askNodes 51 = .ok (.baload, 1) := by decide +kernel
theorem dX7_askNodes_52 : decode cX7_askNodes 52 = .ok (.ifCond .eq 9, 3) := by decide +kernel
theorem dX7_askNodes_55 : decode cX7_askNodes 55 = .ok (.aload_n 0, 1) := by decide +kernel
theorem dX7_askNodes_56 : decode cX7_askNodes 56 = .ok (.iload_n 1, 1) := by decide +kernel
theorem dX7_askNodes_57 : decode cX7_askNodes 57 = .ok (.iload_n 2, 1) := by decide +kernel
theorem dX7_askNodes_58 : decode cX7_askNodes 58 = .ok (.invokevirtual 144, 3) := by decide +kernel
theorem dX7_askNodes_61 : decode cX7_askNodes 61 = .ok (.aload_n 0, 1) := by decide +kernel
theorem dX7_askNodes_62 : decode cX7_askNodes 62 = .ok (.getfield 47, 3) := by decide +kernel
theorem dX7_askNodes_65 : decode cX7_askNodes 65 = .ok (.invokevirtual 79, 3) := by decide +kernel
theorem dX7_askNodes_68 : decode cX7_askNodes 68 = .ok (.ifCond .eq 4, 3) := by decide +kernel
theorem dX7_askNodes_71 : decode cX7_askNodes 71 = .ok (.return_, 1) := by decide +kernel
theorem dX7_askNodes_72 : decode cX7_askNodes 72 = .ok (.iinc 1 1, 3) := by decide +kernel
theorem dX7_askNodes_75 : decode cX7_askNodes 75 = .ok (.goto (-73), 3) := by decide +kernel
theorem dX7_askNodes_78 : decode cX7_askNodes 78 = .ok (.return_, 1) := by decide +kernel
theorem dX3_startLine_0 : decode cX3_startLine 0 = .ok (.iconst 0, 1) := by decide +kernel
theorem dX3_startLine_1 : decode cX3_startLine 1 = .ok (.istore_n 1, 1) := by decide +kernel
theorem dX3_startLine_2 : decode cX3_startLine 2 = .ok (.iload_n 1, 1) := by decide +kernel
theorem dX3_startLine_3 : decode cX3_startLine 3 = .ok (.aload_n 0, 1) := by decide +kernel
theorem dX3_startLine_4 : decode cX3_startLine 4 = .ok (.getfield 31, 3) := by decide +kernel
theorem dX3_startLine_7 : decode cX3_startLine 7 = .ok (.getfield 96, 3) := by decide +kernel
theorem dX3_startLine_10 : decode cX3_startLine 10 = .ok (.if_icmp .ge 37, 3) := by decide +kernel
theorem dX3_startLine_13 : decode cX3_startLine 13 = .ok (.aload_n 0, 1) := by decide +kernel
theorem dX3_startLine_14 : decode cX3_startLine 14 = .ok (.getfield 31, 3) := by decide +kernel
theorem dX3_startLine_17 : decode cX3_startLine 17 = .ok (.getfield 101, 3) := by decide +kernel
theorem dX3_startLine_20 : decode cX3_startLine 20 = .ok (.iload_n 1, 1) := by decide +kernel
theorem dX3_startLine_21 : decode cX3_startLine 21 = .ok (.baload, 1) := by decide +kernel
theorem dX3_startLine_22 : decode cX3_startLine 22 = .ok (.ifCond .eq 8, 3) := by decide +kernel
theorem dX3_startLine_25 : decode cX3_startLine 25 = .ok (.aload_n 0, 1) := by decide +kernel
theorem dX3_startLine_26 : decode cX3_startLine 26 = .ok (.iload_n 1, 1) := by decide +kernel
theorem dX3_startLine_27 : decode cX3_startLine 27 = .ok (.invokevirtual 105, 3) := by decide +kernel
theorem dX3_startLine_30 : decode cX3_startLine 30 = .ok (.aload_n 0, 1) := by decide +kernel
theorem dX3_startLine_31 : decode cX3_startLine 31 = .ok (.getfield 40, 3) := by decide +kernel
theorem dX3_startLine_34 : decode cX3_startLine 34 = .ok (.invokevirtual 74, 3) := by decide +kernel
theorem dX3_startLine_37 : decode cX3_startLine 37 = .ok (.ifCond .eq 4, 3) := by decide +kernel
theorem dX3_startLine_40 : decode cX3_startLine 40 = .ok (.return_, 1) := by decide +kernel
theorem dX3_startLine_41 : decode cX3_startLine 41 = .ok (.iinc 1 1, 3) := by decide +kernel
theorem dX3_startLine_44 : decode cX3_startLine 44 = .ok (.goto (-42), 3) := by decide +kernel
theorem dX3_startLine_47 : decode cX3_startLine 47 = .ok (.return_, 1) := by decide +kernel
theorem dX7_isDone_0 : decode cX7_isDone 0 = .ok (.aload_n 0, 1) := by decide +kernel
theorem dX7_isDone_1 : decode cX7_isDone 1 = .ok (.getfield 48, 3) := by decide +kernel
theorem dX7_isDone_4 : decode cX7_isDone 4 = .ok (.aload_n 0, 1) := by decide +kernel
theorem dX7_isDone_5 : decode cX7_isDone 5 = .ok (.getfield 38, 3) := by decide +kernel
theorem dX7_isDone_8 : decode cX7_isDone 8 = .ok (.invokevirtual 66, 3) := by decide +kernel
theorem dX7_isDone_11 : decode cX7_isDone 11 = .ok (.aload_n 0, 1) := by decide +kernel
theorem dX7_isDone_12 : decode cX7_isDone 12 = .ok (.invokevirtual 72, 3) := by decide +kernel
theorem dX7_isDone_15 : decode cX7_isDone 15 = .ok (.aload_n 0, 1) := by decide +kernel
theorem dX7_isDone_16 : decode cX7_isDone 16 = .ok (.iload_n 1, 1) := by decide +kernel
theorem dX7_isDone_17 : decode cX7_isDone 17 = .ok (.invokevirtual 75, 3) := by decide +kernel
theorem dX7_isDone_20 : decode cX7_isDone 20 = .ok (.aload_n 0, 1) := by decide +kernel
theorem dX7_isDone_21 : decode cX7_isDone 21 = .ok (.getfield 47, 3) := by decide +kernel
theorem dX7_isDone_24 : decode cX7_isDone 24 = .ok (.invokevirtual 79, 3) := by decide +kernel
theorem dX7_isDone_27 : decode cX7_isDone 27 = .ok (.ifCond .ne 7, 3) := by decide +kernel
theorem dX7_isDone_30 : decode cX7_isDone 30 = .ok (.aload_n 0, 1) := by decide +kernel
theorem dX7_isDone_31 : decode cX7_isDone 31 = .ok (.invokevirtual 85, 3) := by decide +kernel
theorem dX7_isDone_34 : decode cX7_isDone 34 = .ok (.aload_n 0, 1) := by decide +kernel
theorem dX7_isDone_35 : decode cX7_isDone 35 = .ok (.getfield 47, 3) := by decide +kernel
theorem dX7_isDone_38 : decode cX7_isDone 38 = .ok (.invokevirtual 79, 3) := by decide +kernel
theorem dX7_isDone_41 : decode cX7_isDone 41 = .ok (.ifCond .ne 7, 3) := by decide +kernel
theorem dX7_isDone_44 : decode cX7_isDone 44 = .ok (.aload_n 0, 1) := by decide +kernel
theorem dX7_isDone_45 : decode cX7_isDone 45 = .ok (.invokevirtual 88, 3) := by decide +kernel
theorem dX7_isDone_48 : decode cX7_isDone 48 = .ok (.aload_n 0, 1) := by decide +kernel
theorem dX7_isDone_49 : decode cX7_isDone 49 = .ok (.getfield 47, 3) := by decide +kernel
theorem dX7_isDone_52 : decode cX7_isDone 52 = .ok (.invokevirtual 79, 3) := by decide +kernel
theorem dX7_isDone_55 : decode cX7_isDone 55 = .ok (.ifCond .ne 7, 3) := by decide +kernel
theorem dX7_isDone_58 : decode cX7_isDone 58 = .ok (.aload_n 0, 1) := by decide +kernel
theorem dX7_isDone_59 : decode cX7_isDone 59 = .ok (.invokevirtual 91, 3) := by decide +kernel
theorem dX7_isDone_62 : decode cX7_isDone 62 = .ok (.aload_n 0, 1) := by decide +kernel
theorem dX7_isDone_63 : decode cX7_isDone 63 = .ok (.getfield 47, 3) := by decide +kernel
theorem dX7_isDone_66 : decode cX7_isDone 66 = .ok (.invokevirtual 79, 3) := by decide +kernel
theorem dX7_isDone_69 : decode cX7_isDone 69 = .ok (.ifCond .eq 16, 3) := by decide +kernel
theorem dX7_isDone_72 : decode cX7_isDone 72 = .ok (.aload_n 0, 1) := by decide +kernel
theorem dX7_isDone_73 : decode cX7_isDone 73 = .ok (.getfield 48, 3) := by decide +kernel
theorem dX7_isDone_76 : decode cX7_isDone 76 = .ok (.aload_n 0, 1) := by decide +kernel
theorem dX7_isDone_77 : decode cX7_isDone 77 = .ok (.getfield 38, 3) := by decide +kernel
theorem dX7_isDone_80 : decode cX7_isDone 80 = .ok (.invokevirtual 94, 3) := by decide +kernel
theorem dX7_isDone_83 : decode cX7_isDone 83 = .ok (.iconst 0, 1) := by decide +kernel
theorem dX7_isDone_84 : decode cX7_isDone 84 = .ok (.ireturn, 1) := by decide +kernel
theorem dX7_isDone_85 : decode cX7_isDone 85 = .ok (.aload_n 0, 1) := by decide +kernel
theorem dX7_isDone_86 : decode cX7_isDone 86 = .ok (.getfield 38, 3) := by decide +kernel
theorem dX7_isDone_89 : decode cX7_isDone 89 = .ok (.dup, 1) := by decide +kernel
theorem dX7_isDone_90 : decode cX7_isDone 90 = .ok (.getfield 97, 3) := by decide +kernel
theorem dX7_isDone_93 : decode cX7_isDone 93 = .ok (.iconst 1, 1) := by decide +kernel
theorem dX7_isDone_94 : decode cX7_isDone 94 = .ok (.iadd, 1) := by decide +kernel
theorem dX7_isDone_95 : decode cX7_isDone 95 = .ok (.putfield 97, 3) := by decide +kernel
theorem dX7_isDone_98 : decode cX7_isDone 98 = .ok (.aload_n 0, 1) := by decide +kernel
theorem dX7_isDone_99 : decode cX7_isDone 99 = .ok (.getfield 48, 3) := by decide +kernel
theorem dX7_isDone_102 : decode cX7_isDone 102 = .ok (.invokevirtual 101, 3) := by decide +kernel
theorem dX7_isDone_105 : decode cX7_isDone 105 = .ok (.aload_n 0, 1) := by decide +kernel
theorem dX7_isDone_106 : decode cX7_isDone 106 = .ok (.invokevirtual 104, 3) := by decide +kernel
theorem dX7_isDone_109 : decode cX7_isDone 109 = .ok (.iconst 1, 1) := by decide +kernel
theorem dX7_isDone_110 : decode cX7_isDone 110 = .ok (.ireturn, 1) := by decide +kernel
theorem dX3_walk_0 : decode cX3_walk 0 = .ok (.aload_n 0, 1) := by decide +kernel
theorem dX3_walk_1 : decode cX3_walk 1 = .ok (.getfield 41, 3) := by decide +kernel
theorem dX3_walk_4 : decode cX3_walk 4 = .ok (.aload_n 0, 1) := by decide +kernel
theorem dX3_walk_5 : decode cX3_walk 5 = .ok (.getfield 31, 3) := by decide +kernel
theorem dX3_walk_8 : decode cX3_walk 8 = .ok (.invokevirtual 49, 3) := by decide +kernel
theorem dX3_walk_11 : decode cX3_walk 11 = .ok (.aload_n 0, 1) := by decide +kernel
theorem dX3_walk_12 : decode cX3_walk 12 = .ok (.getfield 32, 3) := by decide +kernel
theorem dX3_walk_15 : decode cX3_walk 15 = .ok (.getfield 55, 3) := by decide +kernel
theorem dX3_walk_18 : decode cX3_walk 18 = .ok (.invokevirtual 59, 3) := by decide +kernel
theorem dX3_walk_21 : decode cX3_walk 21 = .ok (.aload_n 0, 1) := by decide +kernel
theorem dX3_walk_22 : decode cX3_walk 22 = .ok (.iconst 0, 1) := by decide +kernel
theorem dX3_walk_23 : decode cX3_walk 23 = .ok (.putfield 64, 3) := by decide +kernel
theorem dX3_walk_26 : decode cX3_walk 26 = .ok (.aload_n 0, 1) := by decide +kernel
theorem dX3_walk_27 : decode cX3_walk 27 = .ok (.iconst 0, 1) := by decide +kernel
theorem dX3_walk_28 : decode cX3_walk 28 = .ok (.putfield 68, 3) := by decide +kernel
theorem dX3_walk_31 : decode cX3_walk 31 = .ok (.aload_n 0, 1) := by decide +kernel
theorem dX3_walk_32 : decode cX3_walk 32 = .ok (.invokevirtual 71, 3) := by decide +kernel
theorem dX3_walk_35 : decode cX3_walk 35 = .ok (.iconst 0, 1) := by decide +kernel
theorem dX3_walk_36 : decode cX3_walk 36 = .ok (.istore_n 2, 1) := by decide +kernel
theorem dX3_walk_37 : decode cX3_walk 37 = .ok (.iload_n 2, 1) := by decide +kernel
theorem dX3_walk_38 : decode cX3_walk 38 = .ok (.iload_n 1, 1) := by decide +kernel
theorem dX3_walk_39 : decode cX3_walk 39 = .ok (.if_icmp .ge 81, 3) := by decide +kernel
theorem dX3_walk_42 : decode cX3_walk 42 = .ok (.aload_n 0, 1) := by decide +kernel
theorem dX3_walk_43 : decode cX3_walk 43 = .ok (.getfield 68, 3) := by decide +kernel
theorem dX3_walk_46 : decode cX3_walk 46 = .ok (.ifCond .le 74, 3) := by decide +kernel
theorem dX3_walk_49 : decode cX3_walk 49 = .ok (.aload_n 0, 1) := by decide +kernel
theorem dX3_walk_50 : decode cX3_walk 50 = .ok (.getfield 40, 3) := by decide +kernel
theorem dX3_walk_53 : decode cX3_walk 53 = .ok (.invokevirtual 74, 3) := by decide +kernel
theorem dX3_walk_56 : decode cX3_walk 56 = .ok (.ifCond .ne 64, 3) := by decide +kernel
theorem dX3_walk_59 : decode cX3_walk 59 = .ok (.aload_n 0, 1) := by decide +kernel
theorem dX3_walk_60 : decode cX3_walk 60 = .ok (.getfield 9, 3) := by decide +kernel
theorem dX3_walk_63 : decode cX3_walk 63 = .ok (.aload_n 0, 1) := by decide +kernel
theorem dX3_walk_64 : decode cX3_walk 64 = .ok (.getfield 64, 3) := by decide +kernel
theorem dX3_walk_67 : decode cX3_walk 67 = .ok (.iaload, 1) := by decide +kernel
theorem dX3_walk_68 : decode cX3_walk 68 = .ok (.istore_n 3, 1) := by decide +kernel
theorem dX3_walk_69 : decode cX3_walk 69 = .ok (.aload_n 0, 1) := by decide +kernel
theorem dX3_walk_70 : decode cX3_walk 70 = .ok (.getfield 15, 3) := by decide +kernel
theorem dX3_walk_73 : decode cX3_walk 73 = .ok (.aload_n 0, 1) := by decide +kernel
theorem dX3_walk_74 : decode cX3_walk 74 = .ok (.getfield 64, 3) := by decide +kernel
theorem dX3_walk_77 : decode cX3_walk 77 = .ok (.laload, 1) := by decide +kernel
theorem dX3_walk_78 : decode cX3_walk 78 = .ok (.lstore 4, 2) := by decide +kernel
theorem dX3_walk_80 : decode cX3_walk 80 = .ok (.aload_n 0, 1) := by decide +kernel
theorem dX3_walk_81 : decode cX3_walk 81 = .ok (.iload_n 3, 1) := by decide +kernel
theorem dX3_walk_82 : decode cX3_walk 82 = .ok (.lload 4, 2) := by decide +kernel
theorem dX3_walk_84 : decode cX3_walk 84 = .ok (.invokevirtual 80, 3) := by decide +kernel
theorem dX3_walk_87 : decode cX3_walk 87 = .ok (.ifCond .ne 6, 3) := by decide +kernel
theorem dX3_walk_90 : decode cX3_walk 90 = .ok (.goto 30, 3) := by decide +kernel
theorem dX3_walk_93 : decode cX3_walk 93 = .ok (.iload_n 2, 1) := by decide +kernel
theorem dX3_walk_94 : decode cX3_walk 94 = .ok (.ifCond .ne 10, 3) := by decide +kernel
theorem dX3_walk_97 : decode cX3_walk 97 = .ok (.aload_n 0, 1) := by decide +kernel
theorem dX3_walk_98 : decode cX3_walk 98 = .ok (.getfield 45, 3) := by decide +kernel
theorem dX3_walk_101 : decode cX3_walk 101 = .ok (.invokevirtual 84, 3) := by decide +kernel
theorem dX3_walk_104 : decode cX3_walk 104 = .ok (.aload_n 0, 1) := by decide +kernel
theorem dX3_walk_105 : decode cX3_walk 105 = .ok (.getfield 45, 3) := by decide +kernel
theorem dX3_walk_108 : decode cX3_walk 108 = .ok (.iload_n 3, 1) := by decide +kernel
theorem dX3_walk_109 : decode cX3_walk 109 = .ok (.lload 4, 2) := by decide +kernel
theorem dX3_walk_111 : decode cX3_walk 111 = .ok (.invokevirtual 89, 3) := by decide +kernel
theorem dX3_walk_114 : decode cX3_walk 114 = .ok (.iinc 2 1, 3) := by decide +kernel
theorem dX3_walk_117 : decode cX3_walk 117 = .ok (.goto (-80), 3) := by decide +kernel
theorem dX3_walk_120 : decode cX3_walk 120 = .ok (.iload_n 2, 1) := by decide +kernel
theorem dX3_walk_121 : decode cX3_walk 121 = .ok (.ifCond .le 10, 3) := by decide +kernel
theorem dX3_walk_124 : decode cX3_walk 124 = .ok (.aload_n 0, 1) := by decide +kernel
theorem dX3_walk_125 : decode cX3_walk 125 = .ok (.getfield 41, 3) := by decide +kernel
theorem dX3_walk_128 : decode cX3_walk 128 = .ok (.invokevirtual 93, 3) := by decide +kernel
theorem dX3_walk_131 : decode cX3_walk 131 = .ok (.iload_n 2, 1) := by decide +kernel
theorem dX3_walk_132 : decode cX3_walk 132 = .ok (.ireturn, 1) := by decide +kernel
theorem dX7_walk_0 : decode cX7_walk 0 = .ok (.iconst 0, 1) := by decide +kernel
theorem dX7_walk_1 : decode cX7_walk 1 = .ok (.istore_n 3, 1) := by decide +kernel
theorem dX7_walk_2 : decode cX7_walk 2 = .ok (.iload_n 3, 1) := by decide +kernel
theorem dX7_walk_3 : decode cX7_walk 3 = .ok (.iload_n 2, 1) := by decide +kernel
theorem dX7_walk_4 : decode cX7_walk 4 = .ok (.if_icmp .ge 27, 3) := by decide +kernel
theorem dX7_walk_7 : decode cX7_walk 7 = .ok (.aload_n 0, 1) := by decide +kernel
theorem dX7_walk_8 : decode cX7_walk 8 = .ok (.getfield 38, 3) := by decide +kernel
theorem dX7_walk_11 : decode cX7_walk 11 = .ok (.invokevirtual 56, 3) := by decide +kernel
theorem dX7_walk_14 : decode cX7_walk 14 = .ok (.ifCond .le 17, 3) := by decide +kernel
theorem dX7_walk_17 : decode cX7_walk 17 = .ok (.aload_n 0, 1) := by decide +kernel
theorem dX7_walk_18 : decode cX7_walk 18 = .ok (.iload_n 1, 1) := by decide +kernel
theorem dX7_walk_19 : decode cX7_walk 19 = .ok (.invokevirtual 62, 3) := by decide +kernel
theorem dX7_walk_22 : decode cX7_walk 22 = .ok (.ifCond .eq 9, 3) := by decide +kernel
theorem dX7_walk_25 : decode cX7_walk 25 = .ok (.iinc 3 1, 3) := by decide +kernel
theorem dX7_walk_28 : decode cX7_walk 28 = .ok (.goto (-26), 3) := by decide +kernel
theorem dX7_walk_31 : decode cX7_walk 31 = .ok (.iload_n 3, 1) := by decide +kernel
theorem dX7_walk_32 : decode cX7_walk 32 = .ok (.ireturn, 1) := by decide +kernel
def rm_cX7_askNodes : Room := { frames := 45, cells := 0, slots := 0, locals := 1294 }
def G_cX7_askNodes_b61 (p : Program) (l : Launch) (e : Env) (s : State) (m : MethodId) (args : Array Value) (below : List Frame) (meth : Method) (c : Code) (dC : Nat → ClassId) (dI : Nat → Nat → Nat) (kA : Nat → ClassId) (ad : Nat → Nat) (res : RS) (F : RS → Int32 → Option (RS)) : Prop := ∀ (σ : RS) (x1 : Int32), F σ x1 = some res → ∀ (H : Heap) (locs : List Loc) (ls : Array Slot), va_P (dC, dI) vwCl (c_w kA ad σ) H → va_S (jw_A 57 ad) s.heap H locs → lv_has ls 3 [(0, .ref (ad 24)), (1, .int x1)] → W p l e rm_cX7_askNodes s m args below meth c H locs 0 0 (c_Qu below dC dI kA ad args s res) (F0 m 61 ls [])
def G_cX7_askNodes_b45 (p : Program) (l : Launch) (e : Env) (s : State) (m : MethodId) (args : Array Value) (below : List Frame) (meth : Method) (c : Code) (dC : Nat → ClassId) (dI : Nat → Nat → Nat) (kA : Nat → ClassId) (ad : Nat → Nat) (res : RS) (F : RS → Int32 → Int32 → Int32 → Int32 → Option (RS)) : Prop := ∀ (σ : RS) (x1 : Int32) (x2 : Int32) (s0 : Int32) (s1 : Int32), F σ x1 x2 s0 s1 = some res → ∀ (H : Heap) (locs : List Loc) (ls : Array Slot), va_P (dC, dI) vwCl (c_w kA ad σ) H → va_S (jw_A 57 ad) s.heap H locs → lv_has ls 3 [(0, .ref (ad 24)), (1, .int x1), (2, .int x2)] → W p l e rm_cX7_askNodes s m args below meth c H locs 0 0 (c_Qu below dC dI kA ad args s res) (F0 m 45 ls [.int s0, .int s1, .ref (ad 28)])
def G_cX7_askNodes_b40 (p : Program) (l : Launch) (e : Env) (s : State) (m : MethodId) (args : Array Value) (below : List Frame) (meth : Method) (c : Code) (dC : Nat → ClassId) (dI : Nat → Nat → Nat) (kA : Nat → ClassId) (ad : Nat → Nat) (res : RS) (F : RS → Int32 → Int32 → Int32 → Option (RS)) : Prop := ∀ (σ : RS) (x1 : Int32) (x2 : Int32) (s0 : Int32), F σ x1 x2 s0 = some res → ∀ (H : Heap) (locs : List Loc) (ls : Array Slot), va_P (dC, dI) vwCl (c_w kA ad σ) H → va_S (jw_A 57 ad) s.heap H locs → lv_has ls 3 [(0, .ref (ad 24)), (1, .int x1), (2, .int x2)] → W p l e rm_cX7_askNodes s m args below meth c H locs 0 0 (c_Qu below dC dI kA ad args s res) (F0 m 40 ls [.int s0, .ref (ad 28)])
def G_cX7_askNodes_b2 (p : Program) (l : Launch) (e : Env) (s : State) (m : MethodId) (args : Array Value) (below : List Frame) (meth : Method) (c : Code) (dC : Nat → ClassId) (dI : Nat → Nat → Nat) (kA : Nat → ClassId) (ad : Nat → Nat) (res : RS) (F : RS → Int32 → Option (RS)) : Prop := ∀ (σ : RS) (x1 : Int32), F σ x1 = some res → ∀ (H : Heap) (locs : List Loc) (ls : Array Slot), va_P (dC, dI) vwCl (c_w kA ad σ) H → va_S (jw_A 57 ad) s.heap H locs → lv_has ls 3 [(0, .ref (ad 24)), (1, .int x1)] → W p l e rm_cX7_askNodes s m args below meth c H locs 0 0 (c_Qu below dC dI kA ad args s res) (F0 m 2 ls [])
def G_cX7_askNodes (p : Program) (l : Launch) (e : Env) (s : State) (m : MethodId) (args : Array Value) (below : List Frame) (meth : Method) (c : Code) (dC : Nat → ClassId) (dI : Nat → Nat → Nat) (kA : Nat → ClassId) (ad : Nat → Nat) (res : RS) (F : RS → Option (RS)) : Prop := ∀ (σ : RS), F σ = some res → ∀ (H : Heap) (locs : List Loc) (ls : Array Slot), va_P (dC, dI) vwCl (c_w kA ad σ) H → va_S (jw_A 57 ad) s.heap H locs → lv_has ls 3 [(0, .ref (ad 24))] → W p l e rm_cX7_askNodes s m args below meth c H locs 0 0 (c_Qu below dC dI kA ad args s res) (F0 m 0 ls [])
def s_cX7_askNodes_b61 (k2 : RS → Int32 → Option (RS)) (σ : RS) (x1 : Int32) : Option (RS) := kn_i (s_cX2_is σ) (fun v1 σ2 => if v1 = 0 then (kn_v (x1 + 1) (fun v3 => k2 σ2 v3)) else some σ2)
set_option maxRecDepth 100000 in
set_option maxHeartbeats 4000000 in
theorem p_cX7_askNodes_b61 {p : Program} {l : Launch} {e : Env} {s : State} {m : MethodId} {args : Array Value} {below : List Frame} {meth : Method} {c : Code} {dC : Nat → ClassId} {dI : Nat → Nat → Nat} {kA : Nat → ClassId} {ad : Nat → Nat} (C : jxc cX7_askNodes none 3 RX7 p s m args meth c dC dI kA) (hap : jw_ap 57 ad) {res : RS} {k2 : RS → Int32 → Option (RS)} (hk2 : G_cX7_askNodes_b2 p l e s m args below meth c dC dI kA ad res k2) : G_cX7_askNodes_b61 p l e s m args below meth c dC dI kA ad res (s_cX7_askNodes_b61 k2) := by
  obtain ⟨hx, hb, hml, hown, hts, hr, hlocks, hK, hN⟩ := id C
  intro σ x1 hf H locs ls hP hS hl
  unfold s_cX7_askNodes_b61 at hf
  refine lv_aload_n hx hb dX7_askNodes_61 rfl (lv_at hl 0 rfl) ?_
  refine c_gX7_failure hx hb hts hown hK hP (hts _ kw_334) dX7_askNodes_62 ?_
  refine jk_i hf (fun res hres => jv_run hx hb hml hown hts hK hN c_hG c_hNW hl.1 (n := 0) (As := []) (rest := []) (c_cX2_is l hap σ res hres) hP (ci := 2) (q0 := 16) rfl rfl rfl kw_584 kw_635 kw_582 kw_583 kw_56 ⟨rfl, rfl⟩ (by decide +kernel) rfl ⟨Nat.le_of_ble_eq_true rfl, Nat.le_of_ble_eq_true rfl⟩ rfl (Nat.le_of_ble_eq_true rfl) dX7_askNodes_65) hS (fun v1 σ2 H locs hP hS hf => ?_)
  refine jb_eq (tgt := 72) hx hb hf dX7_askNodes_68 (by decide) (fun hf => ?_) (fun hf => ?_)
  · obtain ⟨v3, e_v3, hf⟩ := kn_v_e hf
    refine lv_iinc (v := v3) (lv' := [(1, .int v3), (0, .ref (ad 24))]) hx hb dX7_askNodes_72 hl (k := 1) rfl e_v3 (by decide) rfl (fun ls hl => ?_)
    refine lv_goto (tgt := 2) hx hb dX7_askNodes_75 (by decide) ?_
    exact hk2 σ2 v3 hf H locs ls hP hS (lv_sub hl [1, 0] rfl)
  · exact jr_u hx hb hr hlocks hf hP hS dX7_askNodes_71
def s_cX7_askNodes_b45 (k2 : RS → Int32 → Option (RS)) (σ : RS) (x1 : Int32) (x2 : Int32) (s0 : Int32) (s1 : Int32) : Option (RS) := kn_st (rs_A σ 12 (upd (rg_A σ 12) s1.toNatClampNeg (vp_nar .boolean s0))) 12 s1 (fun σ1 => kn_ld (rg_A σ1 12) 12 x1 (fun v2 => if v2 = 0 then (s_cX7_askNodes_b61 k2 σ1 x1) else (kn_u (s_cX7_askNode σ1 x1 x2) (fun σ4 => s_cX7_askNodes_b61 k2 σ4 x1))))
set_option maxRecDepth 100000 in
set_option maxHeartbeats 4000000 in
theorem p_cX7_askNodes_b45 {p : Program} {l : Launch} {e : Env} {s : State} {m : MethodId} {args : Array Value} {below : List Frame} {meth : Method} {c : Code} {dC : Nat → ClassId} {dI : Nat → Nat → Nat} {kA : Nat → ClassId} {ad : Nat → Nat} (C : jxc cX7_askNodes none 3 RX7 p s m args meth c dC dI kA) (hap : jw_ap 57 ad) {res : RS} {k2 : RS → Int32 → Option (RS)} (hk2 : G_cX7_askNodes_b2 p l e s m args below meth c dC dI kA ad res k2) : G_cX7_askNodes_b45 p l e s m args below meth c dC dI kA ad res (s_cX7_askNodes_b45 k2) := by
  obtain ⟨hx, hb, hml, hown, hts, hr, hlocks, hK, hN⟩ := id C
  intro σ x1 x2 s0 s1 hf H locs ls hP hS hl
  unfold s_cX7_askNodes_b45 at hf
  refine ja_zst hx hb hK (c_D hap σ) hP hS 28 2 rfl rfl rfl c_sA12 hf dX7_askNodes_45 (fun σ1 H locs hP hS hf => ?_)
  refine lv_aload_n hx hb dX7_askNodes_46 rfl (lv_at hl 0 rfl) ?_
  refine c_gX7_reached hx hb hts hown hK hP (hts _ kw_340) dX7_askNodes_47 ?_
  refine lv_iload_n hx hb dX7_askNodes_50 rfl (lv_at hl 1 rfl) ?_
  refine ja_zld hx hb hK hP 28 2 rfl rfl hf dX7_askNodes_51 (fun v2 hf => ?_)
  refine jb_eq (tgt := 61) hx hb hf dX7_askNodes_52 (by decide) (fun hf => ?_) (fun hf => ?_)
  · exact (p_cX7_askNodes_b61 C hap hk2) σ1 x1 hf H locs ls hP hS (lv_sub hl [0, 1] rfl)
  · refine lv_aload_n hx hb dX7_askNodes_55 rfl (lv_at hl 0 rfl) ?_
    refine lv_iload_n hx hb dX7_askNodes_56 rfl (lv_at hl 1 rfl) ?_
    refine lv_iload_n hx hb dX7_askNodes_57 rfl (lv_at hl 2 rfl) ?_
    refine jk_u hf (fun res hres => jv_run hx hb hml hown hts hK hN c_hG c_hNW hl.1 (n := 2) (As := [.int x1, .int x2]) (rest := []) (c_cX7_askNode l hap σ1 x1 x2 res hres) hP (ci := 7) (q0 := 24) rfl rfl rfl kw_647 kw_644 kw_646 kw_17 kw_62 ⟨rfl, rfl⟩ (by decide +kernel) rfl ⟨Nat.le_of_ble_eq_true rfl, Nat.le_of_ble_eq_true rfl⟩ rfl (Nat.le_of_ble_eq_true rfl) dX7_askNodes_58) hS (fun σ4 H locs hP hS hf => ?_)
    exact (p_cX7_askNodes_b61 C hap hk2) σ4 x1 hf H locs ls hP hS (lv_sub hl [0, 1] rfl)
def s_cX7_askNodes_b40 (k2 : RS → Int32 → Option (RS)) (σ : RS) (x1 : Int32) (x2 : Int32) (s0 : Int32) : Option (RS) := s_cX7_askNodes_b45 k2 σ x1 x2 1 s0
set_option maxRecDepth 100000 in
set_option maxHeartbeats 4000000 in
theorem p_cX7_askNodes_b40 {p : Program} {l : Launch} {e : Env} {s : State} {m : MethodId} {args : Array Value} {below : List Frame} {meth : Method} {c : Code} {dC : Nat → ClassId} {dI : Nat → Nat → Nat} {kA : Nat → ClassId} {ad : Nat → Nat} (C : jxc cX7_askNodes none 3 RX7 p s m args meth c dC dI kA) (hap : jw_ap 57 ad) {res : RS} {k2 : RS → Int32 → Option (RS)} (hk2 : G_cX7_askNodes_b2 p l e s m args below meth c dC dI kA ad res k2) : G_cX7_askNodes_b40 p l e s m args below meth c dC dI kA ad res (s_cX7_askNodes_b40 k2) := by
  obtain ⟨hx, hb, hml, hown, hts, hr, hlocks, hK, hN⟩ := id C
  intro σ x1 x2 s0 hf H locs ls hP hS hl
  unfold s_cX7_askNodes_b40 at hf
  refine lv_iconst (v := 1) hx hb dX7_askNodes_40 (by decide) ?_
  refine lv_goto (tgt := 45) hx hb dX7_askNodes_41 (by decide) ?_
  exact (p_cX7_askNodes_b45 C hap hk2) σ x1 x2 1 s0 hf H locs ls hP hS (lv_sub hl [0, 1, 2] rfl)
def s_cX7_askNodes_b2 (k2 : RS → Int32 → Option (RS)) (σ : RS) (x1 : Int32) : Option (RS) := if (rg_I σ 2) ≤ x1 then some σ else (kn_i (s_cX7_messagesTo σ x1) (fun v1 σ2 => kn_ld (rg_A σ2 4) 12 x1 (fun v3 => if v3 = 0 then (if v1 ≤ 0 then (s_cX7_askNodes_b45 k2 σ2 x1 v1 0 x1) else (s_cX7_askNodes_b40 k2 σ2 x1 v1 x1)) else (s_cX7_askNodes_b40 k2 σ2 x1 v1 x1))))
set_option maxRecDepth 100000 in
set_option maxHeartbeats 4000000 in
theorem p_cX7_askNodes_b2 {p : Program} {l : Launch} {e : Env} {s : State} {m : MethodId} {args : Array Value} {below : List Frame} {meth : Method} {c : Code} {dC : Nat → ClassId} {dI : Nat → Nat → Nat} {kA : Nat → ClassId} {ad : Nat → Nat} (C : jxc cX7_askNodes none 3 RX7 p s m args meth c dC dI kA) (hap : jw_ap 57 ad) {res : RS} {k2 : RS → Int32 → Option (RS)} (hk2 : G_cX7_askNodes_b2 p l e s m args below meth c dC dI kA ad res k2) : G_cX7_askNodes_b2 p l e s m args below meth c dC dI kA ad res (s_cX7_askNodes_b2 k2) := by
  obtain ⟨hx, hb, hml, hown, hts, hr, hlocks, hK, hN⟩ := id C
  intro σ x1 hf H locs ls hP hS hl
  unfold s_cX7_askNodes_b2 at hf
  refine lv_iload_n hx hb dX7_askNodes_2 rfl (lv_at hl 1 rfl) ?_
  refine lv_aload_n hx hb dX7_askNodes_3 rfl (lv_at hl 0 rfl) ?_
  refine c_gX7_web hx hb hts hown hK hP (hts _ kw_332) dX7_askNodes_4 ?_
  refine c_gX10_nodes hx hb hts hown hK hP (hts _ kw_137) dX7_askNodes_7 ?_
  refine jc_ge (tgt := 78) hx hb hf dX7_askNodes_10 (by decide) (fun hf => ?_) (fun hf => ?_)
  · exact jr_u hx hb hr hlocks hf hP hS dX7_askNodes_78
  · refine lv_aload_n hx hb dX7_askNodes_13 rfl (lv_at hl 0 rfl) ?_
    refine lv_iload_n hx hb dX7_askNodes_14 rfl (lv_at hl 1 rfl) ?_
    refine jk_i hf (fun res hres => jv_run hx hb hml hown hts hK hN c_hG c_hNW hl.1 (n := 1) (As := [.int x1]) (rest := []) (c_cX7_messagesTo l hap σ x1 res hres) hP (ci := 7) (q0 := 24) rfl rfl rfl kw_643 kw_640 kw_642 kw_16 kw_62 ⟨rfl, rfl⟩ (by decide +kernel) rfl ⟨Nat.le_of_ble_eq_true rfl, Nat.le_of_ble_eq_true rfl⟩ rfl (Nat.le_of_ble_eq_true rfl) dX7_askNodes_15) hS (fun v1 σ2 H locs hP hS hf => ?_)
    refine lv_istore_n (lv' := [(2, .int v1), (0, .ref (ad 24)), (1, .int x1)]) hx hb dX7_askNodes_18 rfl hl (by decide) rfl (fun ls hl => ?_)
    refine lv_aload_n hx hb dX7_askNodes_19 rfl (lv_at hl 1 rfl) ?_
    refine c_gX7_reached hx hb hts hown hK hP (hts _ kw_340) dX7_askNodes_20 ?_
    refine lv_iload_n hx hb dX7_askNodes_23 rfl (lv_at hl 2 rfl) ?_
    refine lv_aload_n hx hb dX7_askNodes_24 rfl (lv_at hl 1 rfl) ?_
    refine c_gX7_web hx hb hts hown hK hP (hts _ kw_332) dX7_askNodes_25 ?_
    refine c_gX10_awake hx hb hts hown hK hP (hts _ kw_123) dX7_askNodes_28 ?_
    refine lv_iload_n hx hb dX7_askNodes_31 rfl (lv_at hl 2 rfl) ?_
    refine ja_zld hx hb hK hP 9 2 rfl rfl hf dX7_askNodes_32 (fun v3 hf => ?_)
    refine jb_ne (tgt := 40) hx hb hf dX7_askNodes_33 (by decide) (fun hf => ?_) (fun hf => ?_)
    · exact (p_cX7_askNodes_b40 C hap hk2) σ2 x1 v1 x1 hf H locs ls hP hS (lv_sub hl [1, 2, 0] rfl)
    · refine lv_iload_n hx hb dX7_askNodes_36 rfl (lv_at hl 0 rfl) ?_
      refine jb_le (tgt := 44) hx hb hf dX7_askNodes_37 (by decide) (fun hf => ?_) (fun hf => ?_)
      · refine lv_iconst (v := 0) hx hb dX7_askNodes_44 (by decide) ?_
        exact (p_cX7_askNodes_b45 C hap hk2) σ2 x1 v1 0 x1 hf H locs ls hP hS (lv_sub hl [1, 2, 0] rfl)
      · exact (p_cX7_askNodes_b40 C hap hk2) σ2 x1 v1 x1 hf H locs ls hP hS (lv_sub hl [1, 2, 0] rfl)
def f_cX7_askNodes_b2 : RS → Int32 → Option (RS) := kn_fix (fun _ _ => none) (s_cX7_askNodes_b2) FU
theorem q_cX7_askNodes_b2 {p : Program} {l : Launch} {e : Env} {s : State} {m : MethodId} {args : Array Value} {below : List Frame} {meth : Method} {c : Code} {dC : Nat → ClassId} {dI : Nat → Nat → Nat} {kA : Nat → ClassId} {ad : Nat → Nat} (C : jxc cX7_askNodes none 3 RX7 p s m args meth c dC dI kA) (hap : jw_ap 57 ad) {res : RS} : G_cX7_askNodes_b2 p l e s m args below meth c dC dI kA ad res (f_cX7_askNodes_b2) := kn_fix_ind (G := fun F => G_cX7_askNodes_b2 p l e s m args below meth c dC dI kA ad res F) (fun _ _ hf => by cases hf) (fun k2 hk2 => p_cX7_askNodes_b2 C hap hk2) FU
def s_cX7_askNodes (σ : RS) : Option (RS) := f_cX7_askNodes_b2 σ 0
set_option maxRecDepth 100000 in
set_option maxHeartbeats 4000000 in
theorem p_cX7_askNodes {p : Program} {l : Launch} {e : Env} {s : State} {m : MethodId} {args : Array Value} {below : List Frame} {meth : Method} {c : Code} {dC : Nat → ClassId} {dI : Nat → Nat → Nat} {kA : Nat → ClassId} {ad : Nat → Nat} (C : jxc cX7_askNodes none 3 RX7 p s m args meth c dC dI kA) (hap : jw_ap 57 ad) {res : RS} : G_cX7_askNodes p l e s m args below meth c dC dI kA ad res (s_cX7_askNodes) := by
  obtain ⟨hx, hb, hml, hown, hts, hr, hlocks, hK, hN⟩ := id C
  intro σ hf H locs ls hP hS hl
  unfold s_cX7_askNodes at hf
  refine lv_iconst (v := 0) hx hb dX7_askNodes_0 (by decide) ?_
  refine lv_istore_n (lv' := [(1, .int 0), (0, .ref (ad 24))]) hx hb dX7_askNodes_1 rfl hl (by decide) rfl (fun ls hl => ?_)
  exact (q_cX7_askNodes_b2 C hap) σ 0 hf H locs ls hP hS (lv_sub hl [1, 0] rfl)
theorem c_cX7_askNodes (l : Launch) {dC : Nat → ClassId} {dI : Nat → Nat → Nat} {kA : Nat → ClassId} {ad : Nat → Nat} (hap : jw_ap 57 ad) (σ : RS) (res : RS) (hf : s_cX7_askNodes σ = some res) : jm_u l KW NW (dC, dI) vwCl (jtys kA) (jw_A 57 ad) (c_w kA ad) yX7_askNodes cX7_askNodes 3 (rm_cX7_askNodes) [.ref (ad 24)] σ res := jm_u_of (by decide) (Nat.le_of_ble_eq_true rfl) (fun p e s m below meth c C hP hS ls hl => p_cX7_askNodes C hap σ hf s.heap [] ls hP hS hl)

def rm_cX3_startLine : Room := { frames := 46, cells := 0, slots := 0, locals := 1318 }
def G_cX3_startLine_b30 (p : Program) (l : Launch) (e : Env) (s : State) (m : MethodId) (args : Array Value) (below : List Frame) (meth : Method) (c : Code) (dC : Nat → ClassId) (dI : Nat → Nat → Nat) (kA : Nat → ClassId) (ad : Nat → Nat) (res : RS) (F : RS → Int32 → Option (RS)) : Prop := ∀ (σ : RS) (x1 : Int32), F σ x1 = some res → ∀ (H : Heap) (locs : List Loc) (ls : Array Slot), va_P (dC, dI) vwCl (c_w kA ad σ) H → va_S (jw_A 57 ad) s.heap H locs → lv_has ls 2 [(0, .ref (ad 31)), (1, .int x1)] → W p l e rm_cX3_startLine s m args below meth c H locs 0 0 (c_Qu below dC dI kA ad args s res) (F0 m 30 ls [])
def G_cX3_startLine_b2 (p : Program) (l : Launch) (e : Env) (s : State) (m : MethodId) (args : Array Value) (below : List Frame) (meth : Method) (c : Code) (dC : Nat → ClassId) (dI : Nat → Nat → Nat) (kA : Nat → ClassId) (ad : Nat → Nat) (res : RS) (F : RS → Int32 → Option (RS)) : Prop := ∀ (σ : RS) (x1 : Int32), F σ x1 = some res → ∀ (H : Heap) (locs : List Loc) (ls : Array Slot), va_P (dC, dI) vwCl (c_w kA ad σ) H → va_S (jw_A 57 ad) s.heap H locs → lv_has ls 2 [(0, .ref (ad 31)), (1, .int x1)] → W p l e rm_cX3_startLine s m args below meth c H locs 0 0 (c_Qu below dC dI kA ad args s res) (F0 m 2 ls [])
def G_cX3_startLine (p : Program) (l : Launch) (e : Env) (s : State) (m : MethodId) (args : Array Value) (below : List Frame) (meth : Method) (c : Code) (dC : Nat → ClassId) (dI : Nat → Nat → Nat) (kA : Nat → ClassId) (ad : Nat → Nat) (res : RS) (F : RS → Option (RS)) : Prop := ∀ (σ : RS), F σ = some res → ∀ (H : Heap) (locs : List Loc) (ls : Array Slot), va_P (dC, dI) vwCl (c_w kA ad σ) H → va_S (jw_A 57 ad) s.heap H locs → lv_has ls 2 [(0, .ref (ad 31))] → W p l e rm_cX3_startLine s m args below meth c H locs 0 0 (c_Qu below dC dI kA ad args s res) (F0 m 0 ls [])
def s_cX3_startLine_b30 (k2 : RS → Int32 → Option (RS)) (σ : RS) (x1 : Int32) : Option (RS) := kn_i (s_cX2_is σ) (fun v1 σ2 => if v1 = 0 then (kn_v (x1 + 1) (fun v3 => k2 σ2 v3)) else some σ2)
set_option maxRecDepth 100000 in
set_option maxHeartbeats 4000000 in
theorem p_cX3_startLine_b30 {p : Program} {l : Launch} {e : Env} {s : State} {m : MethodId} {args : Array Value} {below : List Frame} {meth : Method} {c : Code} {dC : Nat → ClassId} {dI : Nat → Nat → Nat} {kA : Nat → ClassId} {ad : Nat → Nat} (C : jxc cX3_startLine none 2 RX3 p s m args meth c dC dI kA) (hap : jw_ap 57 ad) {res : RS} {k2 : RS → Int32 → Option (RS)} (hk2 : G_cX3_startLine_b2 p l e s m args below meth c dC dI kA ad res k2) : G_cX3_startLine_b30 p l e s m args below meth c dC dI kA ad res (s_cX3_startLine_b30 k2) := by
  obtain ⟨hx, hb, hml, hown, hts, hr, hlocks, hK, hN⟩ := id C
  intro σ x1 hf H locs ls hP hS hl
  unfold s_cX3_startLine_b30 at hf
  refine lv_aload_n hx hb dX3_startLine_30 rfl (lv_at hl 0 rfl) ?_
  refine c_gX3_failure hx hb hts hown hK hP (hts _ kw_377) dX3_startLine_31 ?_
  refine jk_i hf (fun res hres => jv_run hx hb hml hown hts hK hN c_hG c_hNW hl.1 (n := 0) (As := []) (rest := []) (c_cX2_is l hap σ res hres) hP (ci := 2) (q0 := 16) rfl rfl rfl kw_584 kw_581 kw_582 kw_583 kw_56 ⟨rfl, rfl⟩ (by decide +kernel) rfl ⟨Nat.le_of_ble_eq_true rfl, Nat.le_of_ble_eq_true rfl⟩ rfl (Nat.le_of_ble_eq_true rfl) dX3_startLine_34) hS (fun v1 σ2 H locs hP hS hf => ?_)
  refine jb_eq (tgt := 41) hx hb hf dX3_startLine_37 (by decide) (fun hf => ?_) (fun hf => ?_)
  · obtain ⟨v3, e_v3, hf⟩ := kn_v_e hf
    refine lv_iinc (v := v3) (lv' := [(1, .int v3), (0, .ref (ad 31))]) hx hb dX3_startLine_41 hl (k := 1) rfl e_v3 (by decide) rfl (fun ls hl => ?_)
    refine lv_goto (tgt := 2) hx hb dX3_startLine_44 (by decide) ?_
    exact hk2 σ2 v3 hf H locs ls hP hS (lv_sub hl [1, 0] rfl)
  · exact jr_u hx hb hr hlocks hf hP hS dX3_startLine_40
def s_cX3_startLine_b2 (k2 : RS → Int32 → Option (RS)) (σ : RS) (x1 : Int32) : Option (RS) := if (rg_I σ 2) ≤ x1 then some σ else (kn_ld (rg_A σ 4) 12 x1 (fun v1 => if v1 = 0 then (s_cX3_startLine_b30 k2 σ x1) else (kn_u (s_cX3_sendOn σ x1) (fun σ3 => s_cX3_startLine_b30 k2 σ3 x1))))
set_option maxRecDepth 100000 in
set_option maxHeartbeats 4000000 in
theorem p_cX3_startLine_b2 {p : Program} {l : Launch} {e : Env} {s : State} {m : MethodId} {args : Array Value} {below : List Frame} {meth : Method} {c : Code} {dC : Nat → ClassId} {dI : Nat → Nat → Nat} {kA : Nat → ClassId} {ad : Nat → Nat} (C : jxc cX3_startLine none 2 RX3 p s m args meth c dC dI kA) (hap : jw_ap 57 ad) {res : RS} {k2 : RS → Int32 → Option (RS)} (hk2 : G_cX3_startLine_b2 p l e s m args below meth c dC dI kA ad res k2) : G_cX3_startLine_b2 p l e s m args below meth c dC dI kA ad res (s_cX3_startLine_b2 k2) := by
  obtain ⟨hx, hb, hml, hown, hts, hr, hlocks, hK, hN⟩ := id C
  intro σ x1 hf H locs ls hP hS hl
  unfold s_cX3_startLine_b2 at hf
  refine lv_iload_n hx hb dX3_startLine_2 rfl (lv_at hl 1 rfl) ?_
  refine lv_aload_n hx hb dX3_startLine_3 rfl (lv_at hl 0 rfl) ?_
  refine c_gX3_web hx hb hts hown hK hP (hts _ kw_375) dX3_startLine_4 ?_
  refine c_gX10_nodes hx hb hts hown hK hP (hts _ kw_136) dX3_startLine_7 ?_
  refine jc_ge (tgt := 47) hx hb hf dX3_startLine_10 (by decide) (fun hf => ?_) (fun hf => ?_)
  · exact jr_u hx hb hr hlocks hf hP hS dX3_startLine_47
  · refine lv_aload_n hx hb dX3_startLine_13 rfl (lv_at hl 0 rfl) ?_
    refine c_gX3_web hx hb hts hown hK hP (hts _ kw_375) dX3_startLine_14 ?_
    refine c_gX10_awake hx hb hts hown hK hP (hts _ kw_122) dX3_startLine_17 ?_
    refine lv_iload_n hx hb dX3_startLine_20 rfl (lv_at hl 1 rfl) ?_
    refine ja_zld hx hb hK hP 9 2 rfl rfl hf dX3_startLine_21 (fun v1 hf => ?_)
    refine jb_eq (tgt := 30) hx hb hf dX3_startLine_22 (by decide) (fun hf => ?_) (fun hf => ?_)
    · exact (p_cX3_startLine_b30 C hap hk2) σ x1 hf H locs ls hP hS (lv_sub hl [0, 1] rfl)
    · refine lv_aload_n hx hb dX3_startLine_25 rfl (lv_at hl 0 rfl) ?_
      refine lv_iload_n hx hb dX3_startLine_26 rfl (lv_at hl 1 rfl) ?_
      refine jk_u hf (fun res hres => jv_run hx hb hml hown hts hK hN c_hG c_hNW hl.1 (n := 1) (As := [.int x1]) (rest := []) (c_cX3_sendOn l hap σ x1 res hres) hP (ci := 3) (q0 := 31) rfl rfl rfl kw_547 kw_544 kw_546 kw_2 kw_63 ⟨rfl, rfl⟩ (by decide +kernel) rfl ⟨Nat.le_of_ble_eq_true rfl, Nat.le_of_ble_eq_true rfl⟩ rfl (Nat.le_of_ble_eq_true rfl) dX3_startLine_27) hS (fun σ3 H locs hP hS hf => ?_)
      exact (p_cX3_startLine_b30 C hap hk2) σ3 x1 hf H locs ls hP hS (lv_sub hl [0, 1] rfl)
def f_cX3_startLine_b2 : RS → Int32 → Option (RS) := kn_fix (fun _ _ => none) (s_cX3_startLine_b2) FU
theorem q_cX3_startLine_b2 {p : Program} {l : Launch} {e : Env} {s : State} {m : MethodId} {args : Array Value} {below : List Frame} {meth : Method} {c : Code} {dC : Nat → ClassId} {dI : Nat → Nat → Nat} {kA : Nat → ClassId} {ad : Nat → Nat} (C : jxc cX3_startLine none 2 RX3 p s m args meth c dC dI kA) (hap : jw_ap 57 ad) {res : RS} : G_cX3_startLine_b2 p l e s m args below meth c dC dI kA ad res (f_cX3_startLine_b2) := kn_fix_ind (G := fun F => G_cX3_startLine_b2 p l e s m args below meth c dC dI kA ad res F) (fun _ _ hf => by cases hf) (fun k2 hk2 => p_cX3_startLine_b2 C hap hk2) FU
def s_cX3_startLine (σ : RS) : Option (RS) := f_cX3_startLine_b2 σ 0
set_option maxRecDepth 100000 in
set_option maxHeartbeats 4000000 in
theorem p_cX3_startLine {p : Program} {l : Launch} {e : Env} {s : State} {m : MethodId} {args : Array Value} {below : List Frame} {meth : Method} {c : Code} {dC : Nat → ClassId} {dI : Nat → Nat → Nat} {kA : Nat → ClassId} {ad : Nat → Nat} (C : jxc cX3_startLine none 2 RX3 p s m args meth c dC dI kA) (hap : jw_ap 57 ad) {res : RS} : G_cX3_startLine p l e s m args below meth c dC dI kA ad res (s_cX3_startLine) := by
  obtain ⟨hx, hb, hml, hown, hts, hr, hlocks, hK, hN⟩ := id C
  intro σ hf H locs ls hP hS hl
  unfold s_cX3_startLine at hf
  refine lv_iconst (v := 0) hx hb dX3_startLine_0 (by decide) ?_
  refine lv_istore_n (lv' := [(1, .int 0), (0, .ref (ad 31))]) hx hb dX3_startLine_1 rfl hl (by decide) rfl (fun ls hl => ?_)
  exact (q_cX3_startLine_b2 C hap) σ 0 hf H locs ls hP hS (lv_sub hl [1, 0] rfl)
theorem c_cX3_startLine (l : Launch) {dC : Nat → ClassId} {dI : Nat → Nat → Nat} {kA : Nat → ClassId} {ad : Nat → Nat} (hap : jw_ap 57 ad) (σ : RS) (res : RS) (hf : s_cX3_startLine σ = some res) : jm_u l KW NW (dC, dI) vwCl (jtys kA) (jw_A 57 ad) (c_w kA ad) yX3_startLine cX3_startLine 2 (rm_cX3_startLine) [.ref (ad 31)] σ res := jm_u_of (by decide) (Nat.le_of_ble_eq_true rfl) (fun p e s m below meth c C hP hS ls hl => p_cX3_startLine C hap σ hf s.heap [] ls hP hS hl)

def rm_cX7_isDone : Room := { frames := 46, cells := 0, slots := 0, locals := 1317 }
def G_cX7_isDone_b62 (p : Program) (l : Launch) (e : Env) (s : State) (m : MethodId) (args : Array Value) (below : List Frame) (meth : Method) (c : Code) (dC : Nat → ClassId) (dI : Nat → Nat → Nat) (kA : Nat → ClassId) (ad : Nat → Nat) (res : Int32 × RS) (F : RS → Option (Int32 × RS)) : Prop := ∀ (σ : RS), F σ = some res → ∀ (H : Heap) (locs : List Loc) (ls : Array Slot), va_P (dC, dI) vwCl (c_w kA ad σ) H → va_S (jw_A 57 ad) s.heap H locs → lv_has ls 2 [(0, .ref (ad 24))] → W p l e rm_cX7_isDone s m args below meth c H locs 0 0 (c_Qi below dC dI kA ad args s res) (F0 m 62 ls [])
def G_cX7_isDone_b48 (p : Program) (l : Launch) (e : Env) (s : State) (m : MethodId) (args : Array Value) (below : List Frame) (meth : Method) (c : Code) (dC : Nat → ClassId) (dI : Nat → Nat → Nat) (kA : Nat → ClassId) (ad : Nat → Nat) (res : Int32 × RS) (F : RS → Option (Int32 × RS)) : Prop := ∀ (σ : RS), F σ = some res → ∀ (H : Heap) (locs : List Loc) (ls : Array Slot), va_P (dC, dI) vwCl (c_w kA ad σ) H → va_S (jw_A 57 ad) s.heap H locs → lv_has ls 2 [(0, .ref (ad 24))] → W p l e rm_cX7_isDone s m args below meth c H locs 0 0 (c_Qi below dC dI kA ad args s res) (F0 m 48 ls [])
def G_cX7_isDone_b34 (p : Program) (l : Launch) (e : Env) (s : State) (m : MethodId) (args : Array Value) (below : List Frame) (meth : Method) (c : Code) (dC : Nat → ClassId) (dI : Nat → Nat → Nat) (kA : Nat → ClassId) (ad : Nat → Nat) (res : Int32 × RS) (F : RS → Option (Int32 × RS)) : Prop := ∀ (σ : RS), F σ = some res → ∀ (H : Heap) (locs : List Loc) (ls : Array Slot), va_P (dC, dI) vwCl (c_w kA ad σ) H → va_S (jw_A 57 ad) s.heap H locs → lv_has ls 2 [(0, .ref (ad 24))] → W p l e rm_cX7_isDone s m args below meth c H locs 0 0 (c_Qi below dC dI kA ad args s res) (F0 m 34 ls [])
def G_cX7_isDone (p : Program) (l : Launch) (e : Env) (s : State) (m : MethodId) (args : Array Value) (below : List Frame) (meth : Method) (c : Code) (dC : Nat → ClassId) (dI : Nat → Nat → Nat) (kA : Nat → ClassId) (ad : Nat → Nat) (res : Int32 × RS) (F : RS → Int32 → Option (Int32 × RS)) : Prop := ∀ (σ : RS) (x1 : Int32), F σ x1 = some res → ∀ (H : Heap) (locs : List Loc) (ls : Array Slot), va_P (dC, dI) vwCl (c_w kA ad σ) H → va_S (jw_A 57 ad) s.heap H locs → lv_has ls 2 [(0, .ref (ad 24)), (1, .int x1)] → W p l e rm_cX7_isDone s m args below meth c H locs 0 0 (c_Qi below dC dI kA ad args s res) (F0 m 0 ls [])
def s_cX7_isDone_b62 (σ : RS) : Option (Int32 × RS) := kn_i (s_cX2_is σ) (fun v1 σ2 => if v1 = 0 then (kn_v (rs_I σ2 4 ((rg_I σ2 4) + 1)) (fun σ3 => kn_u (s_cX5_keepMark σ3) (fun σ5 => kn_u (s_cX7_tellMessages σ5) (fun σ7 => some (1, σ7))))) else (kn_u (s_cX5_backToMark σ2) (fun σ9 => some (0, σ9))))
set_option maxRecDepth 100000 in
set_option maxHeartbeats 4000000 in
theorem p_cX7_isDone_b62 {p : Program} {l : Launch} {e : Env} {s : State} {m : MethodId} {args : Array Value} {below : List Frame} {meth : Method} {c : Code} {dC : Nat → ClassId} {dI : Nat → Nat → Nat} {kA : Nat → ClassId} {ad : Nat → Nat} (C : jxc cX7_isDone (some .boolean) 2 RX7 p s m args meth c dC dI kA) (hap : jw_ap 57 ad) {res : Int32 × RS} : G_cX7_isDone_b62 p l e s m args below meth c dC dI kA ad res (s_cX7_isDone_b62) := by
  obtain ⟨hx, hb, hml, hown, hts, hr, hlocks, hK, hN⟩ := id C
  intro σ hf H locs ls hP hS hl
  unfold s_cX7_isDone_b62 at hf
  refine lv_aload_n hx hb dX7_isDone_62 rfl (lv_at hl 0 rfl) ?_
  refine c_gX7_failure hx hb hts hown hK hP (hts _ kw_334) dX7_isDone_63 ?_
  refine jk_i hf (fun res hres => jv_run hx hb hml hown hts hK hN c_hG c_hNW hl.1 (n := 0) (As := []) (rest := []) (c_cX2_is l hap σ res hres) hP (ci := 2) (q0 := 16) rfl rfl rfl kw_584 kw_635 kw_582 kw_583 kw_56 ⟨rfl, rfl⟩ (by decide +kernel) rfl ⟨Nat.le_of_ble_eq_true rfl, Nat.le_of_ble_eq_true rfl⟩ rfl (Nat.le_of_ble_eq_true rfl) dX7_isDone_66) hS (fun v1 σ2 H locs hP hS hf => ?_)
  refine jb_eq (tgt := 85) hx hb hf dX7_isDone_69 (by decide) (fun hf => ?_) (fun hf => ?_)
  · refine lv_aload_n hx hb dX7_isDone_85 rfl (lv_at hl 0 rfl) ?_
    refine c_gX7_web hx hb hts hown hK hP (hts _ kw_332) dX7_isDone_86 ?_
    refine lv_dup hx hb dX7_isDone_89 rfl ?_
    refine c_gX10_rounds hx hb hts hown hK hP (hts _ kw_145) dX7_isDone_90 ?_
    refine lv_iconst (v := 1) hx hb dX7_isDone_93 (by decide) ?_
    refine lv_iadd hx hb dX7_isDone_94 ?_
    refine c_pX10_rounds hx hb hts hown hK hap hP hS hf (hts _ kw_145) dX7_isDone_95 (fun σ3 H locs hP hS hf => ?_)
    refine lv_aload_n hx hb dX7_isDone_98 rfl (lv_at hl 0 rfl) ?_
    refine c_gX7_past hx hb hts hown hK hP (hts _ kw_335) dX7_isDone_99 ?_
    refine jk_u hf (fun res hres => jv_run hx hb hml hown hts hK hN c_hG c_hNW hl.1 (n := 0) (As := []) (rest := []) (c_cX5_keepMark l hap σ3 res hres) hP (ci := 5) (q0 := 17) rfl rfl rfl kw_607 kw_681 kw_605 kw_606 kw_57 ⟨rfl, rfl⟩ (by decide +kernel) rfl ⟨Nat.le_of_ble_eq_true rfl, Nat.le_of_ble_eq_true rfl⟩ rfl (Nat.le_of_ble_eq_true rfl) dX7_isDone_102) hS (fun σ5 H locs hP hS hf => ?_)
    refine lv_aload_n hx hb dX7_isDone_105 rfl (lv_at hl 0 rfl) ?_
    refine jk_u hf (fun res hres => jv_run hx hb hml hown hts hK hN c_hG c_hNW hl.1 (n := 0) (As := []) (rest := []) (c_cX7_tellMessages l hap σ5 res hres) hP (ci := 7) (q0 := 24) rfl rfl rfl kw_685 kw_682 kw_684 kw_22 kw_62 ⟨rfl, rfl⟩ (by decide +kernel) rfl ⟨Nat.le_of_ble_eq_true rfl, Nat.le_of_ble_eq_true rfl⟩ rfl (Nat.le_of_ble_eq_true rfl) dX7_isDone_106) hS (fun σ7 H locs hP hS hf => ?_)
    refine lv_iconst (v := 1) hx hb dX7_isDone_109 (by decide) ?_
    exact jr_i hx hb hr hlocks hf (by decide) hP hS dX7_isDone_110
  · refine lv_aload_n hx hb dX7_isDone_72 rfl (lv_at hl 0 rfl) ?_
    refine c_gX7_past hx hb hts hown hK hP (hts _ kw_335) dX7_isDone_73 ?_
    refine lv_aload_n hx hb dX7_isDone_76 rfl (lv_at hl 0 rfl) ?_
    refine c_gX7_web hx hb hts hown hK hP (hts _ kw_332) dX7_isDone_77 ?_
    refine jk_u hf (fun res hres => jv_run hx hb hml hown hts hK hN c_hG c_hNW hl.1 (n := 1) (As := [.ref (ad 7)]) (rest := []) (c_cX5_backToMark l hap σ2 res hres) hP (ci := 5) (q0 := 17) rfl rfl rfl kw_676 kw_673 kw_674 kw_675 kw_57 ⟨rfl, rfl⟩ (by decide +kernel) rfl ⟨Nat.le_of_ble_eq_true rfl, Nat.le_of_ble_eq_true rfl⟩ rfl (Nat.le_of_ble_eq_true rfl) dX7_isDone_80) hS (fun σ9 H locs hP hS hf => ?_)
    refine lv_iconst (v := 0) hx hb dX7_isDone_83 (by decide) ?_
    exact jr_i hx hb hr hlocks hf (by decide) hP hS dX7_isDone_84
def s_cX7_isDone_b48 (σ : RS) : Option (Int32 × RS) := kn_i (s_cX2_is σ) (fun v1 σ2 => if v1 = 0 then (kn_u (s_cX7_sumParts σ2) (fun σ4 => s_cX7_isDone_b62 σ4)) else (s_cX7_isDone_b62 σ2))
set_option maxRecDepth 100000 in
set_option maxHeartbeats 4000000 in
theorem p_cX7_isDone_b48 {p : Program} {l : Launch} {e : Env} {s : State} {m : MethodId} {args : Array Value} {below : List Frame} {meth : Method} {c : Code} {dC : Nat → ClassId} {dI : Nat → Nat → Nat} {kA : Nat → ClassId} {ad : Nat → Nat} (C : jxc cX7_isDone (some .boolean) 2 RX7 p s m args meth c dC dI kA) (hap : jw_ap 57 ad) {res : Int32 × RS} : G_cX7_isDone_b48 p l e s m args below meth c dC dI kA ad res (s_cX7_isDone_b48) := by
  obtain ⟨hx, hb, hml, hown, hts, hr, hlocks, hK, hN⟩ := id C
  intro σ hf H locs ls hP hS hl
  unfold s_cX7_isDone_b48 at hf
  refine lv_aload_n hx hb dX7_isDone_48 rfl (lv_at hl 0 rfl) ?_
  refine c_gX7_failure hx hb hts hown hK hP (hts _ kw_334) dX7_isDone_49 ?_
  refine jk_i hf (fun res hres => jv_run hx hb hml hown hts hK hN c_hG c_hNW hl.1 (n := 0) (As := []) (rest := []) (c_cX2_is l hap σ res hres) hP (ci := 2) (q0 := 16) rfl rfl rfl kw_584 kw_635 kw_582 kw_583 kw_56 ⟨rfl, rfl⟩ (by decide +kernel) rfl ⟨Nat.le_of_ble_eq_true rfl, Nat.le_of_ble_eq_true rfl⟩ rfl (Nat.le_of_ble_eq_true rfl) dX7_isDone_52) hS (fun v1 σ2 H locs hP hS hf => ?_)
  refine jb_ne (tgt := 62) hx hb hf dX7_isDone_55 (by decide) (fun hf => ?_) (fun hf => ?_)
  · exact (p_cX7_isDone_b62 C hap) σ2 hf H locs ls hP hS (lv_sub hl [0] rfl)
  · refine lv_aload_n hx hb dX7_isDone_58 rfl (lv_at hl 0 rfl) ?_
    refine jk_u hf (fun res hres => jv_run hx hb hml hown hts hK hN c_hG c_hNW hl.1 (n := 0) (As := []) (rest := []) (c_cX7_sumParts l hap σ2 res hres) hP (ci := 7) (q0 := 24) rfl rfl rfl kw_672 kw_669 kw_671 kw_21 kw_62 ⟨rfl, rfl⟩ (by decide +kernel) rfl ⟨Nat.le_of_ble_eq_true rfl, Nat.le_of_ble_eq_true rfl⟩ rfl (Nat.le_of_ble_eq_true rfl) dX7_isDone_59) hS (fun σ4 H locs hP hS hf => ?_)
    exact (p_cX7_isDone_b62 C hap) σ4 hf H locs ls hP hS (lv_sub hl [0] rfl)
def s_cX7_isDone_b34 (σ : RS) : Option (Int32 × RS) := kn_i (s_cX2_is σ) (fun v1 σ2 => if v1 = 0 then (kn_u (s_cX7_changeNodes σ2) (fun σ4 => s_cX7_isDone_b48 σ4)) else (s_cX7_isDone_b48 σ2))
set_option maxRecDepth 100000 in
set_option maxHeartbeats 4000000 in
theorem p_cX7_isDone_b34 {p : Program} {l : Launch} {e : Env} {s : State} {m : MethodId} {args : Array Value} {below : List Frame} {meth : Method} {c : Code} {dC : Nat → ClassId} {dI : Nat → Nat → Nat} {kA : Nat → ClassId} {ad : Nat → Nat} (C : jxc cX7_isDone (some .boolean) 2 RX7 p s m args meth c dC dI kA) (hap : jw_ap 57 ad) {res : Int32 × RS} : G_cX7_isDone_b34 p l e s m args below meth c dC dI kA ad res (s_cX7_isDone_b34) := by
  obtain ⟨hx, hb, hml, hown, hts, hr, hlocks, hK, hN⟩ := id C
  intro σ hf H locs ls hP hS hl
  unfold s_cX7_isDone_b34 at hf
  refine lv_aload_n hx hb dX7_isDone_34 rfl (lv_at hl 0 rfl) ?_
  refine c_gX7_failure hx hb hts hown hK hP (hts _ kw_334) dX7_isDone_35 ?_
  refine jk_i hf (fun res hres => jv_run hx hb hml hown hts hK hN c_hG c_hNW hl.1 (n := 0) (As := []) (rest := []) (c_cX2_is l hap σ res hres) hP (ci := 2) (q0 := 16) rfl rfl rfl kw_584 kw_635 kw_582 kw_583 kw_56 ⟨rfl, rfl⟩ (by decide +kernel) rfl ⟨Nat.le_of_ble_eq_true rfl, Nat.le_of_ble_eq_true rfl⟩ rfl (Nat.le_of_ble_eq_true rfl) dX7_isDone_38) hS (fun v1 σ2 H locs hP hS hf => ?_)
  refine jb_ne (tgt := 48) hx hb hf dX7_isDone_41 (by decide) (fun hf => ?_) (fun hf => ?_)
  · exact (p_cX7_isDone_b48 C hap) σ2 hf H locs ls hP hS (lv_sub hl [0] rfl)
  · refine lv_aload_n hx hb dX7_isDone_44 rfl (lv_at hl 0 rfl) ?_
    refine jk_u hf (fun res hres => jv_run hx hb hml hown hts hK hN c_hG c_hNW hl.1 (n := 0) (As := []) (rest := []) (c_cX7_changeNodes l hap σ2 res hres) hP (ci := 7) (q0 := 24) rfl rfl rfl kw_667 kw_664 kw_666 kw_20 kw_62 ⟨rfl, rfl⟩ (by decide +kernel) rfl ⟨Nat.le_of_ble_eq_true rfl, Nat.le_of_ble_eq_true rfl⟩ rfl (Nat.le_of_ble_eq_true rfl) dX7_isDone_45) hS (fun σ4 H locs hP hS hf => ?_)
    exact (p_cX7_isDone_b48 C hap) σ4 hf H locs ls hP hS (lv_sub hl [0] rfl)
def s_cX7_isDone (σ : RS) (x1 : Int32) : Option (Int32 × RS) := kn_u (s_cX5_mark σ) (fun σ2 => kn_u (s_cX7_begin σ2) (fun σ4 => kn_u (s_cX7_sendAll σ4 x1) (fun σ6 => kn_i (s_cX2_is σ6) (fun v7 σ8 => if v7 = 0 then (kn_u (s_cX7_askNodes σ8) (fun σ10 => s_cX7_isDone_b34 σ10)) else (s_cX7_isDone_b34 σ8)))))
set_option maxRecDepth 100000 in
set_option maxHeartbeats 4000000 in
theorem p_cX7_isDone {p : Program} {l : Launch} {e : Env} {s : State} {m : MethodId} {args : Array Value} {below : List Frame} {meth : Method} {c : Code} {dC : Nat → ClassId} {dI : Nat → Nat → Nat} {kA : Nat → ClassId} {ad : Nat → Nat} (C : jxc cX7_isDone (some .boolean) 2 RX7 p s m args meth c dC dI kA) (hap : jw_ap 57 ad) {res : Int32 × RS} : G_cX7_isDone p l e s m args below meth c dC dI kA ad res (s_cX7_isDone) := by
  obtain ⟨hx, hb, hml, hown, hts, hr, hlocks, hK, hN⟩ := id C
  intro σ x1 hf H locs ls hP hS hl
  unfold s_cX7_isDone at hf
  refine lv_aload_n hx hb dX7_isDone_0 rfl (lv_at hl 0 rfl) ?_
  refine c_gX7_past hx hb hts hown hK hP (hts _ kw_335) dX7_isDone_1 ?_
  refine lv_aload_n hx hb dX7_isDone_4 rfl (lv_at hl 0 rfl) ?_
  refine c_gX7_web hx hb hts hown hK hP (hts _ kw_332) dX7_isDone_5 ?_
  refine jk_u hf (fun res hres => jv_run hx hb hml hown hts hK hN c_hG c_hNW hl.1 (n := 1) (As := [.ref (ad 7)]) (rest := []) (c_cX5_mark l hap σ res hres) hP (ci := 5) (q0 := 17) rfl rfl rfl kw_524 kw_620 kw_522 kw_523 kw_57 ⟨rfl, rfl⟩ (by decide +kernel) rfl ⟨Nat.le_of_ble_eq_true rfl, Nat.le_of_ble_eq_true rfl⟩ rfl (Nat.le_of_ble_eq_true rfl) dX7_isDone_8) hS (fun σ2 H locs hP hS hf => ?_)
  refine lv_aload_n hx hb dX7_isDone_11 rfl (lv_at hl 0 rfl) ?_
  refine jk_u hf (fun res hres => jv_run hx hb hml hown hts hK hN c_hG c_hNW hl.1 (n := 0) (As := []) (rest := []) (c_cX7_begin l hap σ2 res hres) hP (ci := 7) (q0 := 24) rfl rfl rfl kw_624 kw_621 kw_623 kw_12 kw_62 ⟨rfl, rfl⟩ (by decide +kernel) rfl ⟨Nat.le_of_ble_eq_true rfl, Nat.le_of_ble_eq_true rfl⟩ rfl (Nat.le_of_ble_eq_true rfl) dX7_isDone_12) hS (fun σ4 H locs hP hS hf => ?_)
  refine lv_aload_n hx hb dX7_isDone_15 rfl (lv_at hl 0 rfl) ?_
  refine lv_iload_n hx hb dX7_isDone_16 rfl (lv_at hl 1 rfl) ?_
  refine jk_u hf (fun res hres => jv_run hx hb hml hown hts hK hN c_hG c_hNW hl.1 (n := 1) (As := [.int x1]) (rest := []) (c_cX7_sendAll l hap σ4 x1 res hres) hP (ci := 7) (q0 := 24) rfl rfl rfl kw_629 kw_626 kw_628 kw_13 kw_62 ⟨rfl, rfl⟩ (by decide +kernel) rfl ⟨Nat.le_of_ble_eq_true rfl, Nat.le_of_ble_eq_true rfl⟩ rfl (Nat.le_of_ble_eq_true rfl) dX7_isDone_17) hS (fun σ6 H locs hP hS hf => ?_)
  refine lv_aload_n hx hb dX7_isDone_20 rfl (lv_at hl 0 rfl) ?_
  refine c_gX7_failure hx hb hts hown hK hP (hts _ kw_334) dX7_isDone_21 ?_
  refine jk_i hf (fun res hres => jv_run hx hb hml hown hts hK hN c_hG c_hNW hl.1 (n := 0) (As := []) (rest := []) (c_cX2_is l hap σ6 res hres) hP (ci := 2) (q0 := 16) rfl rfl rfl kw_584 kw_635 kw_582 kw_583 kw_56 ⟨rfl, rfl⟩ (by decide +kernel) rfl ⟨Nat.le_of_ble_eq_true rfl, Nat.le_of_ble_eq_true rfl⟩ rfl (Nat.le_of_ble_eq_true rfl) dX7_isDone_24) hS (fun v7 σ8 H locs hP hS hf => ?_)
  refine jb_ne (tgt := 34) hx hb hf dX7_isDone_27 (by decide) (fun hf => ?_) (fun hf => ?_)
  · exact (p_cX7_isDone_b34 C hap) σ8 hf H locs ls hP hS (lv_sub hl [0] rfl)
  · refine lv_aload_n hx hb dX7_isDone_30 rfl (lv_at hl 0 rfl) ?_
    refine jk_u hf (fun res hres => jv_run hx hb hml hown hts hK hN c_hG c_hNW hl.1 (n := 0) (As := []) (rest := []) (c_cX7_askNodes l hap σ8 res hres) hP (ci := 7) (q0 := 24) rfl rfl rfl kw_639 kw_636 kw_638 kw_15 kw_62 ⟨rfl, rfl⟩ (by decide +kernel) rfl ⟨Nat.le_of_ble_eq_true rfl, Nat.le_of_ble_eq_true rfl⟩ rfl (Nat.le_of_ble_eq_true rfl) dX7_isDone_31) hS (fun σ10 H locs hP hS hf => ?_)
    exact (p_cX7_isDone_b34 C hap) σ10 hf H locs ls hP hS (lv_sub hl [0] rfl)
theorem c_cX7_isDone (l : Launch) {dC : Nat → ClassId} {dI : Nat → Nat → Nat} {kA : Nat → ClassId} {ad : Nat → Nat} (hap : jw_ap 57 ad) (σ : RS) (x1 : Int32) (res : Int32 × RS) (hf : s_cX7_isDone σ x1 = some res) : jm_i l KW NW (dC, dI) vwCl (jtys kA) (jw_A 57 ad) (c_w kA ad) yX7_isDone cX7_isDone 2 .boolean (rm_cX7_isDone) [.ref (ad 24), .int x1] σ res := jm_i_of (by decide) (Nat.le_of_ble_eq_true rfl) (fun p e s m below meth c C hP hS ls hl => p_cX7_isDone C hap σ x1 hf s.heap [] ls hP hS hl)

def rm_cX3_walk : Room := { frames := 47, cells := 0, slots := 0, locals := 1343 }
def G_cX3_walk_b120 (p : Program) (l : Launch) (e : Env) (s : State) (m : MethodId) (args : Array Value) (below : List Frame) (meth : Method) (c : Code) (dC : Nat → ClassId) (dI : Nat → Nat → Nat) (kA : Nat → ClassId) (ad : Nat → Nat) (res : Int32 × RS) (F : RS → Int32 → Option (Int32 × RS)) : Prop := ∀ (σ : RS) (x2 : Int32), F σ x2 = some res → ∀ (H : Heap) (locs : List Loc) (ls : Array Slot), va_P (dC, dI) vwCl (c_w kA ad σ) H → va_S (jw_A 57 ad) s.heap H locs → lv_has ls 6 [(0, .ref (ad 31)), (2, .int x2)] → W p l e rm_cX3_walk s m args below meth c H locs 0 0 (c_Qi below dC dI kA ad args s res) (F0 m 120 ls [])
def G_cX3_walk_b104 (p : Program) (l : Launch) (e : Env) (s : State) (m : MethodId) (args : Array Value) (below : List Frame) (meth : Method) (c : Code) (dC : Nat → ClassId) (dI : Nat → Nat → Nat) (kA : Nat → ClassId) (ad : Nat → Nat) (res : Int32 × RS) (F : RS → Int32 → Int32 → Int32 → Int64 → Option (Int32 × RS)) : Prop := ∀ (σ : RS) (x1 : Int32) (x2 : Int32) (x3 : Int32) (x4 : Int64), F σ x1 x2 x3 x4 = some res → ∀ (H : Heap) (locs : List Loc) (ls : Array Slot), va_P (dC, dI) vwCl (c_w kA ad σ) H → va_S (jw_A 57 ad) s.heap H locs → lv_has ls 6 [(0, .ref (ad 31)), (1, .int x1), (2, .int x2), (3, .int x3), (4, .long x4)] → W p l e rm_cX3_walk s m args below meth c H locs 0 0 (c_Qi below dC dI kA ad args s res) (F0 m 104 ls [])
def G_cX3_walk_b90 (p : Program) (l : Launch) (e : Env) (s : State) (m : MethodId) (args : Array Value) (below : List Frame) (meth : Method) (c : Code) (dC : Nat → ClassId) (dI : Nat → Nat → Nat) (kA : Nat → ClassId) (ad : Nat → Nat) (res : Int32 × RS) (F : RS → Int32 → Option (Int32 × RS)) : Prop := ∀ (σ : RS) (x2 : Int32), F σ x2 = some res → ∀ (H : Heap) (locs : List Loc) (ls : Array Slot), va_P (dC, dI) vwCl (c_w kA ad σ) H → va_S (jw_A 57 ad) s.heap H locs → lv_has ls 6 [(0, .ref (ad 31)), (2, .int x2)] → W p l e rm_cX3_walk s m args below meth c H locs 0 0 (c_Qi below dC dI kA ad args s res) (F0 m 90 ls [])
def G_cX3_walk_b37 (p : Program) (l : Launch) (e : Env) (s : State) (m : MethodId) (args : Array Value) (below : List Frame) (meth : Method) (c : Code) (dC : Nat → ClassId) (dI : Nat → Nat → Nat) (kA : Nat → ClassId) (ad : Nat → Nat) (res : Int32 × RS) (F : RS → Int32 → Int32 → Option (Int32 × RS)) : Prop := ∀ (σ : RS) (x1 : Int32) (x2 : Int32), F σ x1 x2 = some res → ∀ (H : Heap) (locs : List Loc) (ls : Array Slot), va_P (dC, dI) vwCl (c_w kA ad σ) H → va_S (jw_A 57 ad) s.heap H locs → lv_has ls 6 [(0, .ref (ad 31)), (1, .int x1), (2, .int x2)] → W p l e rm_cX3_walk s m args below meth c H locs 0 0 (c_Qi below dC dI kA ad args s res) (F0 m 37 ls [])
def G_cX3_walk (p : Program) (l : Launch) (e : Env) (s : State) (m : MethodId) (args : Array Value) (below : List Frame) (meth : Method) (c : Code) (dC : Nat → ClassId) (dI : Nat → Nat → Nat) (kA : Nat → ClassId) (ad : Nat → Nat) (res : Int32 × RS) (F : RS → Int32 → Option (Int32 × RS)) : Prop := ∀ (σ : RS) (x1 : Int32), F σ x1 = some res → ∀ (H : Heap) (locs : List Loc) (ls : Array Slot), va_P (dC, dI) vwCl (c_w kA ad σ) H → va_S (jw_A 57 ad) s.heap H locs → lv_has ls 6 [(0, .ref (ad 31)), (1, .int x1)] → W p l e rm_cX3_walk s m args below meth c H locs 0 0 (c_Qi below dC dI kA ad args s res) (F0 m 0 ls [])
def s_cX3_walk_b120 (σ : RS) (x2 : Int32) : Option (Int32 × RS) := if x2 ≤ 0 then (some (x2, σ)) else (kn_u (s_cX5_keepMark σ) (fun σ2 => some (x2, σ2)))
set_option maxRecDepth 100000 in
set_option maxHeartbeats 4000000 in
theorem p_cX3_walk_b120 {p : Program} {l : Launch} {e : Env} {s : State} {m : MethodId} {args : Array Value} {below : List Frame} {meth : Method} {c : Code} {dC : Nat → ClassId} {dI : Nat → Nat → Nat} {kA : Nat → ClassId} {ad : Nat → Nat} (C : jxc cX3_walk (some .int) 6 RX3 p s m args meth c dC dI kA) (hap : jw_ap 57 ad) {res : Int32 × RS} : G_cX3_walk_b120 p l e s m args below meth c dC dI kA ad res (s_cX3_walk_b120) := by
  obtain ⟨hx, hb, hml, hown, hts, hr, hlocks, hK, hN⟩ := id C
  intro σ x2 hf H locs ls hP hS hl
  unfold s_cX3_walk_b120 at hf
  refine lv_iload_n hx hb dX3_walk_120 rfl (lv_at hl 1 rfl) ?_
  refine jb_le (tgt := 131) hx hb hf dX3_walk_121 (by decide) (fun hf => ?_) (fun hf => ?_)
  · refine lv_iload_n hx hb dX3_walk_131 rfl (lv_at hl 1 rfl) ?_
    exact jr_i hx hb hr hlocks hf rfl hP hS dX3_walk_132
  · refine lv_aload_n hx hb dX3_walk_124 rfl (lv_at hl 0 rfl) ?_
    refine c_gX3_past hx hb hts hown hK hP (hts _ kw_378) dX3_walk_125 ?_
    refine jk_u hf (fun res hres => jv_run hx hb hml hown hts hK hN c_hG c_hNW hl.1 (n := 0) (As := []) (rest := []) (c_cX5_keepMark l hap σ res hres) hP (ci := 5) (q0 := 17) rfl rfl rfl kw_607 kw_604 kw_605 kw_606 kw_57 ⟨rfl, rfl⟩ (by decide +kernel) rfl ⟨Nat.le_of_ble_eq_true rfl, Nat.le_of_ble_eq_true rfl⟩ rfl (Nat.le_of_ble_eq_true rfl) dX3_walk_128) hS (fun σ2 H locs hP hS hf => ?_)
    refine lv_iload_n hx hb dX3_walk_131 rfl (lv_at hl 1 rfl) ?_
    exact jr_i hx hb hr hlocks hf rfl hP hS dX3_walk_132
def s_cX3_walk_b104 (k37 : RS → Int32 → Int32 → Option (Int32 × RS)) (σ : RS) (x1 : Int32) (x2 : Int32) (x3 : Int32) (x4 : Int64) : Option (Int32 × RS) := kn_u (s_cX9_add σ x3 x4) (fun σ2 => kn_v (x2 + 1) (fun v3 => k37 σ2 x1 v3))
set_option maxRecDepth 100000 in
set_option maxHeartbeats 4000000 in
theorem p_cX3_walk_b104 {p : Program} {l : Launch} {e : Env} {s : State} {m : MethodId} {args : Array Value} {below : List Frame} {meth : Method} {c : Code} {dC : Nat → ClassId} {dI : Nat → Nat → Nat} {kA : Nat → ClassId} {ad : Nat → Nat} (C : jxc cX3_walk (some .int) 6 RX3 p s m args meth c dC dI kA) (hap : jw_ap 57 ad) {res : Int32 × RS} {k37 : RS → Int32 → Int32 → Option (Int32 × RS)} (hk37 : G_cX3_walk_b37 p l e s m args below meth c dC dI kA ad res k37) : G_cX3_walk_b104 p l e s m args below meth c dC dI kA ad res (s_cX3_walk_b104 k37) := by
  obtain ⟨hx, hb, hml, hown, hts, hr, hlocks, hK, hN⟩ := id C
  intro σ x1 x2 x3 x4 hf H locs ls hP hS hl
  unfold s_cX3_walk_b104 at hf
  refine lv_aload_n hx hb dX3_walk_104 rfl (lv_at hl 0 rfl) ?_
  refine c_gX3_told hx hb hts hown hK hP (hts _ kw_379) dX3_walk_105 ?_
  refine lv_iload_n hx hb dX3_walk_108 rfl (lv_at hl 3 rfl) ?_
  refine lv_lload hx hb dX3_walk_109 (lv_at hl 4 rfl) ?_
  refine jk_u hf (fun res hres => jv_run hx hb hml hown hts hK hN c_hG c_hNW hl.1 (n := 2) (As := [.int x3, .long x4]) (rest := []) (c_cX9_add l hap σ x3 x4 res hres) hP (ci := 9) (q0 := 19) rfl rfl rfl kw_603 kw_600 kw_601 kw_602 kw_59 ⟨rfl, rfl⟩ (by decide +kernel) rfl ⟨Nat.le_of_ble_eq_true rfl, Nat.le_of_ble_eq_true rfl⟩ rfl (Nat.le_of_ble_eq_true rfl) dX3_walk_111) hS (fun σ2 H locs hP hS hf => ?_)
  obtain ⟨v3, e_v3, hf⟩ := kn_v_e hf
  refine lv_iinc (v := v3) (lv' := [(2, .int v3), (0, .ref (ad 31)), (1, .int x1), (3, .int x3), (4, .long x4)]) hx hb dX3_walk_114 hl (k := 2) rfl e_v3 (by decide) rfl (fun ls hl => ?_)
  refine lv_goto (tgt := 37) hx hb dX3_walk_117 (by decide) ?_
  exact hk37 σ2 x1 v3 hf H locs ls hP hS (lv_sub hl [1, 2, 0] rfl)
def s_cX3_walk_b90 (σ : RS) (x2 : Int32) : Option (Int32 × RS) := s_cX3_walk_b120 σ x2
set_option maxRecDepth 100000 in
set_option maxHeartbeats 4000000 in
theorem p_cX3_walk_b90 {p : Program} {l : Launch} {e : Env} {s : State} {m : MethodId} {args : Array Value} {below : List Frame} {meth : Method} {c : Code} {dC : Nat → ClassId} {dI : Nat → Nat → Nat} {kA : Nat → ClassId} {ad : Nat → Nat} (C : jxc cX3_walk (some .int) 6 RX3 p s m args meth c dC dI kA) (hap : jw_ap 57 ad) {res : Int32 × RS} : G_cX3_walk_b90 p l e s m args below meth c dC dI kA ad res (s_cX3_walk_b90) := by
  obtain ⟨hx, hb, hml, hown, hts, hr, hlocks, hK, hN⟩ := id C
  intro σ x2 hf H locs ls hP hS hl
  unfold s_cX3_walk_b90 at hf
  refine lv_goto (tgt := 120) hx hb dX3_walk_90 (by decide) ?_
  exact (p_cX3_walk_b120 C hap) σ x2 hf H locs ls hP hS (lv_sub hl [0, 1] rfl)
def s_cX3_walk_b37 (k37 : RS → Int32 → Int32 → Option (Int32 × RS)) (σ : RS) (x1 : Int32) (x2 : Int32) : Option (Int32 × RS) := if x1 ≤ x2 then (s_cX3_walk_b120 σ x2) else (if (rg_I σ 20) ≤ 0 then (s_cX3_walk_b120 σ x2) else (kn_i (s_cX2_is σ) (fun v1 σ2 => if v1 = 0 then (kn_ld (rg_A σ2 14) 60 (rg_I σ2 19) (fun v3 => kn_ld (rg_B σ2 6) 60 (rg_I σ2 19) (fun v4 => kn_i (s_cX3_isDone σ2 v3 v4) (fun v5 σ6 => if v5 = 0 then (s_cX3_walk_b90 σ6 x2) else (if x2 = 0 then (kn_u (s_cX9_clear σ6) (fun σ8 => s_cX3_walk_b104 k37 σ8 x1 x2 v3 v4)) else (s_cX3_walk_b104 k37 σ6 x1 x2 v3 v4)))))) else (s_cX3_walk_b120 σ2 x2))))
set_option maxRecDepth 100000 in
set_option maxHeartbeats 4000000 in
theorem p_cX3_walk_b37 {p : Program} {l : Launch} {e : Env} {s : State} {m : MethodId} {args : Array Value} {below : List Frame} {meth : Method} {c : Code} {dC : Nat → ClassId} {dI : Nat → Nat → Nat} {kA : Nat → ClassId} {ad : Nat → Nat} (C : jxc cX3_walk (some .int) 6 RX3 p s m args meth c dC dI kA) (hap : jw_ap 57 ad) {res : Int32 × RS} {k37 : RS → Int32 → Int32 → Option (Int32 × RS)} (hk37 : G_cX3_walk_b37 p l e s m args below meth c dC dI kA ad res k37) : G_cX3_walk_b37 p l e s m args below meth c dC dI kA ad res (s_cX3_walk_b37 k37) := by
  obtain ⟨hx, hb, hml, hown, hts, hr, hlocks, hK, hN⟩ := id C
  intro σ x1 x2 hf H locs ls hP hS hl
  unfold s_cX3_walk_b37 at hf
  refine lv_iload_n hx hb dX3_walk_37 rfl (lv_at hl 2 rfl) ?_
  refine lv_iload_n hx hb dX3_walk_38 rfl (lv_at hl 1 rfl) ?_
  refine jc_ge (tgt := 120) hx hb hf dX3_walk_39 (by decide) (fun hf => ?_) (fun hf => ?_)
  · exact (p_cX3_walk_b120 C hap) σ x2 hf H locs ls hP hS (lv_sub hl [0, 2] rfl)
  · refine lv_aload_n hx hb dX3_walk_42 rfl (lv_at hl 0 rfl) ?_
    refine c_gX3_size hx hb hts hown hK hP (hts _ kw_385) dX3_walk_43 ?_
    refine jb_le (tgt := 120) hx hb hf dX3_walk_46 (by decide) (fun hf => ?_) (fun hf => ?_)
    · exact (p_cX3_walk_b120 C hap) σ x2 hf H locs ls hP hS (lv_sub hl [0, 2] rfl)
    · refine lv_aload_n hx hb dX3_walk_49 rfl (lv_at hl 0 rfl) ?_
      refine c_gX3_failure hx hb hts hown hK hP (hts _ kw_377) dX3_walk_50 ?_
      refine jk_i hf (fun res hres => jv_run hx hb hml hown hts hK hN c_hG c_hNW hl.1 (n := 0) (As := []) (rest := []) (c_cX2_is l hap σ res hres) hP (ci := 2) (q0 := 16) rfl rfl rfl kw_584 kw_581 kw_582 kw_583 kw_56 ⟨rfl, rfl⟩ (by decide +kernel) rfl ⟨Nat.le_of_ble_eq_true rfl, Nat.le_of_ble_eq_true rfl⟩ rfl (Nat.le_of_ble_eq_true rfl) dX3_walk_53) hS (fun v1 σ2 H locs hP hS hf => ?_)
      refine jb_ne (tgt := 120) hx hb hf dX3_walk_56 (by decide) (fun hf => ?_) (fun hf => ?_)
      · exact (p_cX3_walk_b120 C hap) σ2 x2 hf H locs ls hP hS (lv_sub hl [0, 2] rfl)
      · refine lv_aload_n hx hb dX3_walk_59 rfl (lv_at hl 0 rfl) ?_
        refine c_gX3_arcs hx hb hts hown hK hP (hts _ kw_380) dX3_walk_60 ?_
        refine lv_aload_n hx hb dX3_walk_63 rfl (lv_at hl 0 rfl) ?_
        refine c_gX3_first hx hb hts hown hK hP (hts _ kw_384) dX3_walk_64 ?_
        refine ja_ild hx hb hK hP 32 0 rfl rfl hf dX3_walk_67 (fun v3 hf => ?_)
        refine lv_istore_n (lv' := [(3, .int v3), (0, .ref (ad 31)), (1, .int x1), (2, .int x2)]) hx hb dX3_walk_68 rfl hl (by decide) rfl (fun ls hl => ?_)
        refine lv_aload_n hx hb dX3_walk_69 rfl (lv_at hl 1 rfl) ?_
        refine c_gX3_values hx hb hts hown hK hP (hts _ kw_381) dX3_walk_70 ?_
        refine lv_aload_n hx hb dX3_walk_73 rfl (lv_at hl 1 rfl) ?_
        refine c_gX3_first hx hb hts hown hK hP (hts _ kw_384) dX3_walk_74 ?_
        refine ja_lld hx hb hK hP 33 1 rfl rfl hf dX3_walk_77 (fun v4 hf => ?_)
        refine lv_lstore (lv' := [(4, .long v4), (3, .int v3), (0, .ref (ad 31)), (1, .int x1), (2, .int x2)]) hx hb dX3_walk_78 hl (by decide) rfl (fun ls hl => ?_)
        refine lv_aload_n hx hb dX3_walk_80 rfl (lv_at hl 2 rfl) ?_
        refine lv_iload_n hx hb dX3_walk_81 rfl (lv_at hl 1 rfl) ?_
        refine lv_lload hx hb dX3_walk_82 (lv_at hl 0 rfl) ?_
        refine jk_i hf (fun res hres => jv_run hx hb hml hown hts hK hN c_hG c_hNW hl.1 (n := 2) (As := [.int v3, .long v4]) (rest := []) (c_cX3_isDone l hap σ2 v3 v4 res hres) hP (ci := 3) (q0 := 31) rfl rfl rfl kw_589 kw_586 kw_588 kw_9 kw_63 ⟨rfl, rfl⟩ (by decide +kernel) rfl ⟨Nat.le_of_ble_eq_true rfl, Nat.le_of_ble_eq_true rfl⟩ rfl (Nat.le_of_ble_eq_true rfl) dX3_walk_84) hS (fun v5 σ6 H locs hP hS hf => ?_)
        refine jb_ne (tgt := 93) hx hb hf dX3_walk_87 (by decide) (fun hf => ?_) (fun hf => ?_)
        · refine lv_iload_n hx hb dX3_walk_93 rfl (lv_at hl 4 rfl) ?_
          refine jb_ne (tgt := 104) hx hb hf dX3_walk_94 (by decide) (fun hf => ?_) (fun hf => ?_)
          · exact (p_cX3_walk_b104 C hap hk37) σ6 x1 x2 v3 v4 hf H locs ls hP hS (lv_sub hl [2, 3, 4, 1, 0] rfl)
          · refine lv_aload_n hx hb dX3_walk_97 rfl (lv_at hl 2 rfl) ?_
            refine c_gX3_told hx hb hts hown hK hP (hts _ kw_379) dX3_walk_98 ?_
            refine jk_u hf (fun res hres => jv_run hx hb hml hown hts hK hN c_hG c_hNW hl.1 (n := 0) (As := []) (rest := []) (c_cX9_clear l hap σ6 res hres) hP (ci := 9) (q0 := 19) rfl rfl rfl kw_599 kw_596 kw_597 kw_598 kw_59 ⟨rfl, rfl⟩ (by decide +kernel) rfl ⟨Nat.le_of_ble_eq_true rfl, Nat.le_of_ble_eq_true rfl⟩ rfl (Nat.le_of_ble_eq_true rfl) dX3_walk_101) hS (fun σ8 H locs hP hS hf => ?_)
            exact (p_cX3_walk_b104 C hap hk37) σ8 x1 x2 v3 v4 hf H locs ls hP hS (lv_sub hl [2, 3, 4, 1, 0] rfl)
        · exact (p_cX3_walk_b90 C hap) σ6 x2 hf H locs ls hP hS (lv_sub hl [2, 4] rfl)
def f_cX3_walk_b37 : RS → Int32 → Int32 → Option (Int32 × RS) := kn_fix (fun _ _ _ => none) (s_cX3_walk_b37) FU
theorem q_cX3_walk_b37 {p : Program} {l : Launch} {e : Env} {s : State} {m : MethodId} {args : Array Value} {below : List Frame} {meth : Method} {c : Code} {dC : Nat → ClassId} {dI : Nat → Nat → Nat} {kA : Nat → ClassId} {ad : Nat → Nat} (C : jxc cX3_walk (some .int) 6 RX3 p s m args meth c dC dI kA) (hap : jw_ap 57 ad) {res : Int32 × RS} : G_cX3_walk_b37 p l e s m args below meth c dC dI kA ad res (f_cX3_walk_b37) := kn_fix_ind (G := fun F => G_cX3_walk_b37 p l e s m args below meth c dC dI kA ad res F) (fun _ _ _ hf => by cases hf) (fun k37 hk37 => p_cX3_walk_b37 C hap hk37) FU
def s_cX3_walk (σ : RS) (x1 : Int32) : Option (Int32 × RS) := kn_u (s_cX5_mark σ) (fun σ2 => kn_u (s_cX1_begin σ2) (fun σ4 => kn_v (rs_I σ4 19 0) (fun σ5 => kn_v (rs_I σ5 20 0) (fun σ6 => kn_u (s_cX3_startLine σ6) (fun σ8 => f_cX3_walk_b37 σ8 x1 0)))))
set_option maxRecDepth 100000 in
set_option maxHeartbeats 4000000 in
theorem p_cX3_walk {p : Program} {l : Launch} {e : Env} {s : State} {m : MethodId} {args : Array Value} {below : List Frame} {meth : Method} {c : Code} {dC : Nat → ClassId} {dI : Nat → Nat → Nat} {kA : Nat → ClassId} {ad : Nat → Nat} (C : jxc cX3_walk (some .int) 6 RX3 p s m args meth c dC dI kA) (hap : jw_ap 57 ad) {res : Int32 × RS} : G_cX3_walk p l e s m args below meth c dC dI kA ad res (s_cX3_walk) := by
  obtain ⟨hx, hb, hml, hown, hts, hr, hlocks, hK, hN⟩ := id C
  intro σ x1 hf H locs ls hP hS hl
  unfold s_cX3_walk at hf
  refine lv_aload_n hx hb dX3_walk_0 rfl (lv_at hl 0 rfl) ?_
  refine c_gX3_past hx hb hts hown hK hP (hts _ kw_378) dX3_walk_1 ?_
  refine lv_aload_n hx hb dX3_walk_4 rfl (lv_at hl 0 rfl) ?_
  refine c_gX3_web hx hb hts hown hK hP (hts _ kw_375) dX3_walk_5 ?_
  refine jk_u hf (fun res hres => jv_run hx hb hml hown hts hK hN c_hG c_hNW hl.1 (n := 1) (As := [.ref (ad 7)]) (rest := []) (c_cX5_mark l hap σ res hres) hP (ci := 5) (q0 := 17) rfl rfl rfl kw_524 kw_521 kw_522 kw_523 kw_57 ⟨rfl, rfl⟩ (by decide +kernel) rfl ⟨Nat.le_of_ble_eq_true rfl, Nat.le_of_ble_eq_true rfl⟩ rfl (Nat.le_of_ble_eq_true rfl) dX3_walk_8) hS (fun σ2 H locs hP hS hf => ?_)
  refine lv_aload_n hx hb dX3_walk_11 rfl (lv_at hl 0 rfl) ?_
  refine c_gX3_actor hx hb hts hown hK hP (hts _ kw_376) dX3_walk_12 ?_
  refine c_gX0_asker hx hb hts hown hK hP (hts _ kw_312) dX3_walk_15 ?_
  refine jk_u hf (fun res hres => jv_run hx hb hml hown hts hK hN c_hG c_hNW hl.1 (n := 0) (As := []) (rest := []) (c_cX1_begin l hap σ2 res hres) hP (ci := 1) (q0 := 22) rfl rfl rfl kw_535 kw_532 kw_533 kw_534 kw_60 ⟨rfl, rfl⟩ (by decide +kernel) rfl ⟨Nat.le_of_ble_eq_true rfl, Nat.le_of_ble_eq_true rfl⟩ rfl (Nat.le_of_ble_eq_true rfl) dX3_walk_18) hS (fun σ4 H locs hP hS hf => ?_)
  refine lv_aload_n hx hb dX3_walk_21 rfl (lv_at hl 0 rfl) ?_
  refine lv_iconst (v := 0) hx hb dX3_walk_22 (by decide) ?_
  refine c_pX3_first hx hb hts hown hK hap hP hS hf (hts _ kw_384) dX3_walk_23 (fun σ5 H locs hP hS hf => ?_)
  refine lv_aload_n hx hb dX3_walk_26 rfl (lv_at hl 0 rfl) ?_
  refine lv_iconst (v := 0) hx hb dX3_walk_27 (by decide) ?_
  refine c_pX3_size hx hb hts hown hK hap hP hS hf (hts _ kw_385) dX3_walk_28 (fun σ6 H locs hP hS hf => ?_)
  refine lv_aload_n hx hb dX3_walk_31 rfl (lv_at hl 0 rfl) ?_
  refine jk_u hf (fun res hres => jv_run hx hb hml hown hts hK hN c_hG c_hNW hl.1 (n := 0) (As := []) (rest := []) (c_cX3_startLine l hap σ6 res hres) hP (ci := 3) (q0 := 31) rfl rfl rfl kw_543 kw_540 kw_542 kw_1 kw_63 ⟨rfl, rfl⟩ (by decide +kernel) rfl ⟨Nat.le_of_ble_eq_true rfl, Nat.le_of_ble_eq_true rfl⟩ rfl (Nat.le_of_ble_eq_true rfl) dX3_walk_32) hS (fun σ8 H locs hP hS hf => ?_)
  refine lv_iconst (v := 0) hx hb dX3_walk_35 (by decide) ?_
  refine lv_istore_n (lv' := [(2, .int 0), (0, .ref (ad 31)), (1, .int x1)]) hx hb dX3_walk_36 rfl hl (by decide) rfl (fun ls hl => ?_)
  exact (q_cX3_walk_b37 C hap) σ8 x1 0 hf H locs ls hP hS (lv_sub hl [1, 2, 0] rfl)
theorem c_cX3_walk (l : Launch) {dC : Nat → ClassId} {dI : Nat → Nat → Nat} {kA : Nat → ClassId} {ad : Nat → Nat} (hap : jw_ap 57 ad) (σ : RS) (x1 : Int32) (res : Int32 × RS) (hf : s_cX3_walk σ x1 = some res) : jm_i l KW NW (dC, dI) vwCl (jtys kA) (jw_A 57 ad) (c_w kA ad) yX3_walk cX3_walk 6 .int (rm_cX3_walk) [.ref (ad 31), .int x1] σ res := jm_i_of (by decide) (Nat.le_of_ble_eq_true rfl) (fun p e s m below meth c C hP hS ls hl => p_cX3_walk C hap σ x1 hf s.heap [] ls hP hS hl)

def rm_cX7_walk : Room := { frames := 47, cells := 0, slots := 0, locals := 1338 }
def G_cX7_walk_b2 (p : Program) (l : Launch) (e : Env) (s : State) (m : MethodId) (args : Array Value) (below : List Frame) (meth : Method) (c : Code) (dC : Nat → ClassId) (dI : Nat → Nat → Nat) (kA : Nat → ClassId) (ad : Nat → Nat) (res : Int32 × RS) (F : RS → Int32 → Int32 → Int32 → Option (Int32 × RS)) : Prop := ∀ (σ : RS) (x1 : Int32) (x2 : Int32) (x3 : Int32), F σ x1 x2 x3 = some res → ∀ (H : Heap) (locs : List Loc) (ls : Array Slot), va_P (dC, dI) vwCl (c_w kA ad σ) H → va_S (jw_A 57 ad) s.heap H locs → lv_has ls 4 [(0, .ref (ad 24)), (1, .int x1), (2, .int x2), (3, .int x3)] → W p l e rm_cX7_walk s m args below meth c H locs 0 0 (c_Qi below dC dI kA ad args s res) (F0 m 2 ls [])
def G_cX7_walk (p : Program) (l : Launch) (e : Env) (s : State) (m : MethodId) (args : Array Value) (below : List Frame) (meth : Method) (c : Code) (dC : Nat → ClassId) (dI : Nat → Nat → Nat) (kA : Nat → ClassId) (ad : Nat → Nat) (res : Int32 × RS) (F : RS → Int32 → Int32 → Option (Int32 × RS)) : Prop := ∀ (σ : RS) (x1 : Int32) (x2 : Int32), F σ x1 x2 = some res → ∀ (H : Heap) (locs : List Loc) (ls : Array Slot), va_P (dC, dI) vwCl (c_w kA ad σ) H → va_S (jw_A 57 ad) s.heap H locs → lv_has ls 4 [(0, .ref (ad 24)), (1, .int x1), (2, .int x2)] → W p l e rm_cX7_walk s m args below meth c H locs 0 0 (c_Qi below dC dI kA ad args s res) (F0 m 0 ls [])
def s_cX7_walk_b2 (k2 : RS → Int32 → Int32 → Int32 → Option (Int32 × RS)) (σ : RS) (x1 : Int32) (x2 : Int32) (x3 : Int32) : Option (Int32 × RS) := if x2 ≤ x3 then (some (x3, σ)) else (kn_i (s_cX10_awakeNodes σ) (fun v1 σ2 => if v1 ≤ 0 then (some (x3, σ2)) else (kn_i (s_cX7_isDone σ2 x1) (fun v3 σ4 => if v3 = 0 then (some (x3, σ4)) else (kn_v (x3 + 1) (fun v5 => k2 σ4 x1 x2 v5))))))
set_option maxRecDepth 100000 in
set_option maxHeartbeats 4000000 in
theorem p_cX7_walk_b2 {p : Program} {l : Launch} {e : Env} {s : State} {m : MethodId} {args : Array Value} {below : List Frame} {meth : Method} {c : Code} {dC : Nat → ClassId} {dI : Nat → Nat → Nat} {kA : Nat → ClassId} {ad : Nat → Nat} (C : jxc cX7_walk (some .int) 4 RX7 p s m args meth c dC dI kA) (hap : jw_ap 57 ad) {res : Int32 × RS} {k2 : RS → Int32 → Int32 → Int32 → Option (Int32 × RS)} (hk2 : G_cX7_walk_b2 p l e s m args below meth c dC dI kA ad res k2) : G_cX7_walk_b2 p l e s m args below meth c dC dI kA ad res (s_cX7_walk_b2 k2) := by
  obtain ⟨hx, hb, hml, hown, hts, hr, hlocks, hK, hN⟩ := id C
  intro σ x1 x2 x3 hf H locs ls hP hS hl
  unfold s_cX7_walk_b2 at hf
  refine lv_iload_n hx hb dX7_walk_2 rfl (lv_at hl 3 rfl) ?_
  refine lv_iload_n hx hb dX7_walk_3 rfl (lv_at hl 2 rfl) ?_
  refine jc_ge (tgt := 31) hx hb hf dX7_walk_4 (by decide) (fun hf => ?_) (fun hf => ?_)
  · refine lv_iload_n hx hb dX7_walk_31 rfl (lv_at hl 3 rfl) ?_
    exact jr_i hx hb hr hlocks hf rfl hP hS dX7_walk_32
  · refine lv_aload_n hx hb dX7_walk_7 rfl (lv_at hl 0 rfl) ?_
    refine c_gX7_web hx hb hts hown hK hP (hts _ kw_332) dX7_walk_8 ?_
    refine jk_i hf (fun res hres => jv_run hx hb hml hown hts hK hN c_hG c_hNW hl.1 (n := 0) (As := []) (rest := []) (c_cX10_awakeNodes l hap σ res hres) hP (ci := 10) (q0 := 7) rfl rfl rfl kw_615 kw_612 kw_613 kw_614 kw_54 ⟨rfl, rfl⟩ (by decide +kernel) rfl ⟨Nat.le_of_ble_eq_true rfl, Nat.le_of_ble_eq_true rfl⟩ rfl (Nat.le_of_ble_eq_true rfl) dX7_walk_11) hS (fun v1 σ2 H locs hP hS hf => ?_)
    refine jb_le (tgt := 31) hx hb hf dX7_walk_14 (by decide) (fun hf => ?_) (fun hf => ?_)
    · refine lv_iload_n hx hb dX7_walk_31 rfl (lv_at hl 3 rfl) ?_
      exact jr_i hx hb hr hlocks hf rfl hP hS dX7_walk_32
    · refine lv_aload_n hx hb dX7_walk_17 rfl (lv_at hl 0 rfl) ?_
      refine lv_iload_n hx hb dX7_walk_18 rfl (lv_at hl 1 rfl) ?_
      refine jk_i hf (fun res hres => jv_run hx hb hml hown hts hK hN c_hG c_hNW hl.1 (n := 1) (As := [.int x1]) (rest := []) (c_cX7_isDone l hap σ2 x1 res hres) hP (ci := 7) (q0 := 24) rfl rfl rfl kw_619 kw_616 kw_618 kw_11 kw_62 ⟨rfl, rfl⟩ (by decide +kernel) rfl ⟨Nat.le_of_ble_eq_true rfl, Nat.le_of_ble_eq_true rfl⟩ rfl (Nat.le_of_ble_eq_true rfl) dX7_walk_19) hS (fun v3 σ4 H locs hP hS hf => ?_)
      refine jb_eq (tgt := 31) hx hb hf dX7_walk_22 (by decide) (fun hf => ?_) (fun hf => ?_)
      · refine lv_iload_n hx hb dX7_walk_31 rfl (lv_at hl 3 rfl) ?_
        exact jr_i hx hb hr hlocks hf rfl hP hS dX7_walk_32
      · obtain ⟨v5, e_v5, hf⟩ := kn_v_e hf
        refine lv_iinc (v := v5) (lv' := [(3, .int v5), (0, .ref (ad 24)), (1, .int x1), (2, .int x2)]) hx hb dX7_walk_25 hl (k := 3) rfl e_v5 (by decide) rfl (fun ls hl => ?_)
        refine lv_goto (tgt := 2) hx hb dX7_walk_28 (by decide) ?_
        exact hk2 σ4 x1 x2 v5 hf H locs ls hP hS (lv_sub hl [1, 2, 3, 0] rfl)
def f_cX7_walk_b2 : RS → Int32 → Int32 → Int32 → Option (Int32 × RS) := kn_fix (fun _ _ _ _ => none) (s_cX7_walk_b2) FU
theorem q_cX7_walk_b2 {p : Program} {l : Launch} {e : Env} {s : State} {m : MethodId} {args : Array Value} {below : List Frame} {meth : Method} {c : Code} {dC : Nat → ClassId} {dI : Nat → Nat → Nat} {kA : Nat → ClassId} {ad : Nat → Nat} (C : jxc cX7_walk (some .int) 4 RX7 p s m args meth c dC dI kA) (hap : jw_ap 57 ad) {res : Int32 × RS} : G_cX7_walk_b2 p l e s m args below meth c dC dI kA ad res (f_cX7_walk_b2) := kn_fix_ind (G := fun F => G_cX7_walk_b2 p l e s m args below meth c dC dI kA ad res F) (fun _ _ _ _ hf => by cases hf) (fun k2 hk2 => p_cX7_walk_b2 C hap hk2) FU
def s_cX7_walk (σ : RS) (x1 : Int32) (x2 : Int32) : Option (Int32 × RS) := f_cX7_walk_b2 σ x1 x2 0
set_option maxRecDepth 100000 in
set_option maxHeartbeats 4000000 in
theorem p_cX7_walk {p : Program} {l : Launch} {e : Env} {s : State} {m : MethodId} {args : Array Value} {below : List Frame} {meth : Method} {c : Code} {dC : Nat → ClassId} {dI : Nat → Nat → Nat} {kA : Nat → ClassId} {ad : Nat → Nat} (C : jxc cX7_walk (some .int) 4 RX7 p s m args meth c dC dI kA) (hap : jw_ap 57 ad) {res : Int32 × RS} : G_cX7_walk p l e s m args below meth c dC dI kA ad res (s_cX7_walk) := by
  obtain ⟨hx, hb, hml, hown, hts, hr, hlocks, hK, hN⟩ := id C
  intro σ x1 x2 hf H locs ls hP hS hl
  unfold s_cX7_walk at hf
  refine lv_iconst (v := 0) hx hb dX7_walk_0 (by decide) ?_
  refine lv_istore_n (lv' := [(3, .int 0), (0, .ref (ad 24)), (1, .int x1), (2, .int x2)]) hx hb dX7_walk_1 rfl hl (by decide) rfl (fun ls hl => ?_)
  exact (q_cX7_walk_b2 C hap) σ x1 x2 0 hf H locs ls hP hS (lv_sub hl [1, 2, 3, 0] rfl)
theorem c_cX7_walk (l : Launch) {dC : Nat → ClassId} {dI : Nat → Nat → Nat} {kA : Nat → ClassId} {ad : Nat → Nat} (hap : jw_ap 57 ad) (σ : RS) (x1 : Int32) (x2 : Int32) (res : Int32 × RS) (hf : s_cX7_walk σ x1 x2 = some res) : jm_i l KW NW (dC, dI) vwCl (jtys kA) (jw_A 57 ad) (c_w kA ad) yX7_walk cX7_walk 4 .int (rm_cX7_walk) [.ref (ad 24), .int x1, .int x2] σ res := jm_i_of (by decide) (Nat.le_of_ble_eq_true rfl) (fun p e s m below meth c C hP hS ls hl => p_cX7_walk C hap σ x1 x2 hf s.heap [] ls hP hS hl)
