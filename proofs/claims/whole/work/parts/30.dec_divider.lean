theorem dc_D_init_0 : decode bc_D_init 0 = .ok (.aload_n 0, 1) := by decide +kernel
theorem dc_D_init_1 : decode bc_D_init 1 = .ok (.invokespecial 3, 3) := by decide +kernel
theorem dc_D_init_4 : decode bc_D_init 4 = .ok (.aload_n 0, 1) := by decide +kernel
theorem dc_D_init_5 : decode bc_D_init 5 = .ok (.new 9, 3) := by decide +kernel
theorem dc_D_init_8 : decode bc_D_init 8 = .ok (.dup, 1) := by decide +kernel
theorem dc_D_init_9 : decode bc_D_init 9 = .ok (.invokespecial 11, 3) := by decide +kernel
theorem dc_D_init_12 : decode bc_D_init 12 = .ok (.putfield 12, 3) := by decide +kernel
theorem dc_D_init_15 : decode bc_D_init 15 = .ok (.aload_n 0, 1) := by decide +kernel
theorem dc_D_init_16 : decode bc_D_init 16 = .ok (.new 9, 3) := by decide +kernel
theorem dc_D_init_19 : decode bc_D_init 19 = .ok (.dup, 1) := by decide +kernel
theorem dc_D_init_20 : decode bc_D_init 20 = .ok (.invokespecial 11, 3) := by decide +kernel
theorem dc_D_init_23 : decode bc_D_init 23 = .ok (.putfield 18, 3) := by decide +kernel
theorem dc_D_init_26 : decode bc_D_init 26 = .ok (.aload_n 0, 1) := by decide +kernel
theorem dc_D_init_27 : decode bc_D_init 27 = .ok (.new 9, 3) := by decide +kernel
theorem dc_D_init_30 : decode bc_D_init 30 = .ok (.dup, 1) := by decide +kernel
theorem dc_D_init_31 : decode bc_D_init 31 = .ok (.invokespecial 11, 3) := by decide +kernel
theorem dc_D_init_34 : decode bc_D_init 34 = .ok (.putfield 21, 3) := by decide +kernel
theorem dc_D_init_37 : decode bc_D_init 37 = .ok (.return_, 1) := by decide +kernel
theorem dc_D_run_0 : decode bc_D_run 0 = .ok (.aload_n 2, 1) := by decide +kernel
theorem dc_D_run_1 : decode bc_D_run 1 = .ok (.invokevirtual 24, 3) := by decide +kernel
theorem dc_D_run_4 : decode bc_D_run 4 = .ok (.ifCond .ne 11, 3) := by decide +kernel
theorem dc_D_run_7 : decode bc_D_run 7 = .ok (.aload_n 1, 1) := by decide +kernel
theorem dc_D_run_8 : decode bc_D_run 8 = .ok (.aload_n 2, 1) := by decide +kernel
theorem dc_D_run_9 : decode bc_D_run 9 = .ok (.invokevirtual 28, 3) := by decide +kernel
theorem dc_D_run_12 : decode bc_D_run 12 = .ok (.ifCond .ge 19, 3) := by decide +kernel
theorem dc_D_run_15 : decode bc_D_run 15 = .ok (.aload_n 0, 1) := by decide +kernel
theorem dc_D_run_16 : decode bc_D_run 16 = .ok (.getfield 12, 3) := by decide +kernel
theorem dc_D_run_19 : decode bc_D_run 19 = .ok (.invokevirtual 32, 3) := by decide +kernel
theorem dc_D_run_22 : decode bc_D_run 22 = .ok (.aload_n 0, 1) := by decide +kernel
theorem dc_D_run_23 : decode bc_D_run 23 = .ok (.getfield 18, 3) := by decide +kernel
theorem dc_D_run_26 : decode bc_D_run 26 = .ok (.aload_n 1, 1) := by decide +kernel
theorem dc_D_run_27 : decode bc_D_run 27 = .ok (.invokevirtual 35, 3) := by decide +kernel
theorem dc_D_run_30 : decode bc_D_run 30 = .ok (.return_, 1) := by decide +kernel
theorem dc_D_run_31 : decode bc_D_run 31 = .ok (.aload_n 2, 1) := by decide +kernel
theorem dc_D_run_32 : decode bc_D_run 32 = .ok (.getfield 39, 3) := by decide +kernel
theorem dc_D_run_35 : decode bc_D_run 35 = .ok (.istore_n 3, 1) := by decide +kernel
theorem dc_D_run_36 : decode bc_D_run 36 = .ok (.aload_n 1, 1) := by decide +kernel
theorem dc_D_run_37 : decode bc_D_run 37 = .ok (.getfield 39, 3) := by decide +kernel
theorem dc_D_run_40 : decode bc_D_run 40 = .ok (.iload_n 3, 1) := by decide +kernel
theorem dc_D_run_41 : decode bc_D_run 41 = .ok (.isub, 1) := by decide +kernel
theorem dc_D_run_42 : decode bc_D_run 42 = .ok (.iconst 1, 1) := by decide +kernel
theorem dc_D_run_43 : decode bc_D_run 43 = .ok (.iadd, 1) := by decide +kernel
theorem dc_D_run_44 : decode bc_D_run 44 = .ok (.istore 4, 2) := by decide +kernel
theorem dc_D_run_46 : decode bc_D_run 46 = .ok (.bipush 32, 2) := by decide +kernel
theorem dc_D_run_48 : decode bc_D_run 48 = .ok (.iload_n 3, 1) := by decide +kernel
theorem dc_D_run_49 : decode bc_D_run 49 = .ok (.imul, 1) := by decide +kernel
theorem dc_D_run_50 : decode bc_D_run 50 = .ok (.aload_n 2, 1) := by decide +kernel
theorem dc_D_run_51 : decode bc_D_run 51 = .ok (.invokevirtual 43, 3) := by decide +kernel
theorem dc_D_run_54 : decode bc_D_run 54 = .ok (.isub, 1) := by decide +kernel
theorem dc_D_run_55 : decode bc_D_run 55 = .ok (.istore 5, 2) := by decide +kernel
theorem dc_D_run_57 : decode bc_D_run 57 = .ok (.aload_n 0, 1) := by decide +kernel
theorem dc_D_run_58 : decode bc_D_run 58 = .ok (.getfield 21, 3) := by decide +kernel
theorem dc_D_run_61 : decode bc_D_run 61 = .ok (.aload_n 2, 1) := by decide +kernel
theorem dc_D_run_62 : decode bc_D_run 62 = .ok (.iload 5, 2) := by decide +kernel
theorem dc_D_run_64 : decode bc_D_run 64 = .ok (.invokevirtual 47, 3) := by decide +kernel
theorem dc_D_run_67 : decode bc_D_run 67 = .ok (.aload_n 0, 1) := by decide +kernel
theorem dc_D_run_68 : decode bc_D_run 68 = .ok (.getfield 18, 3) := by decide +kernel
theorem dc_D_run_71 : decode bc_D_run 71 = .ok (.aload_n 1, 1) := by decide +kernel
theorem dc_D_run_72 : decode bc_D_run 72 = .ok (.iload 5, 2) := by decide +kernel
theorem dc_D_run_74 : decode bc_D_run 74 = .ok (.invokevirtual 47, 3) := by decide +kernel
theorem dc_D_run_77 : decode bc_D_run 77 = .ok (.aload_n 0, 1) := by decide +kernel
theorem dc_D_run_78 : decode bc_D_run 78 = .ok (.getfield 18, 3) := by decide +kernel
theorem dc_D_run_81 : decode bc_D_run 81 = .ok (.aload_n 1, 1) := by decide +kernel
theorem dc_D_run_82 : decode bc_D_run 82 = .ok (.getfield 39, 3) := by decide +kernel
theorem dc_D_run_85 : decode bc_D_run 85 = .ok (.iconst 1, 1) := by decide +kernel
theorem dc_D_run_86 : decode bc_D_run 86 = .ok (.iadd, 1) := by decide +kernel
theorem dc_D_run_87 : decode bc_D_run 87 = .ok (.invokevirtual 51, 3) := by decide +kernel
theorem dc_D_run_90 : decode bc_D_run 90 = .ok (.aload_n 0, 1) := by decide +kernel
theorem dc_D_run_91 : decode bc_D_run 91 = .ok (.getfield 12, 3) := by decide +kernel
theorem dc_D_run_94 : decode bc_D_run 94 = .ok (.iload 4, 2) := by decide +kernel
theorem dc_D_run_96 : decode bc_D_run 96 = .ok (.invokevirtual 55, 3) := by decide +kernel
theorem dc_D_run_99 : decode bc_D_run 99 = .ok (.iload 4, 2) := by decide +kernel
theorem dc_D_run_101 : decode bc_D_run 101 = .ok (.iconst 1, 1) := by decide +kernel
theorem dc_D_run_102 : decode bc_D_run 102 = .ok (.isub, 1) := by decide +kernel
theorem dc_D_run_103 : decode bc_D_run 103 = .ok (.istore 6, 2) := by decide +kernel
theorem dc_D_run_105 : decode bc_D_run 105 = .ok (.iload 6, 2) := by decide +kernel
theorem dc_D_run_107 : decode bc_D_run 107 = .ok (.ifCond .lt 26, 3) := by decide +kernel
theorem dc_D_run_110 : decode bc_D_run 110 = .ok (.aload_n 0, 1) := by decide +kernel
theorem dc_D_run_111 : decode bc_D_run 111 = .ok (.getfield 12, 3) := by decide +kernel
theorem dc_D_run_114 : decode bc_D_run 114 = .ok (.getfield 58, 3) := by decide +kernel
theorem dc_D_run_117 : decode bc_D_run 117 = .ok (.iload 6, 2) := by decide +kernel
theorem dc_D_run_119 : decode bc_D_run 119 = .ok (.aload_n 0, 1) := by decide +kernel
theorem dc_D_run_120 : decode bc_D_run 120 = .ok (.iload 6, 2) := by decide +kernel
theorem dc_D_run_122 : decode bc_D_run 122 = .ok (.iload_n 3, 1) := by decide +kernel
theorem dc_D_run_123 : decode bc_D_run 123 = .ok (.invokevirtual 62, 3) := by decide +kernel
theorem dc_D_run_126 : decode bc_D_run 126 = .ok (.lastore, 1) := by decide +kernel
theorem dc_D_run_127 : decode bc_D_run 127 = .ok (.iinc 6 (-1), 3) := by decide +kernel
theorem dc_D_run_130 : decode bc_D_run 130 = .ok (.goto (-25), 3) := by decide +kernel
theorem dc_D_run_133 : decode bc_D_run 133 = .ok (.aload_n 0, 1) := by decide +kernel
theorem dc_D_run_134 : decode bc_D_run 134 = .ok (.getfield 12, 3) := by decide +kernel
theorem dc_D_run_137 : decode bc_D_run 137 = .ok (.iload 4, 2) := by decide +kernel
theorem dc_D_run_139 : decode bc_D_run 139 = .ok (.invokevirtual 66, 3) := by decide +kernel
theorem dc_D_run_142 : decode bc_D_run 142 = .ok (.aload_n 0, 1) := by decide +kernel
theorem dc_D_run_143 : decode bc_D_run 143 = .ok (.getfield 18, 3) := by decide +kernel
theorem dc_D_run_146 : decode bc_D_run 146 = .ok (.iload_n 3, 1) := by decide +kernel
theorem dc_D_run_147 : decode bc_D_run 147 = .ok (.invokevirtual 66, 3) := by decide +kernel
theorem dc_D_run_150 : decode bc_D_run 150 = .ok (.aload_n 0, 1) := by decide +kernel
theorem dc_D_run_151 : decode bc_D_run 151 = .ok (.getfield 18, 3) := by decide +kernel
theorem dc_D_run_154 : decode bc_D_run 154 = .ok (.aload_n 0, 1) := by decide +kernel
theorem dc_D_run_155 : decode bc_D_run 155 = .ok (.getfield 18, 3) := by decide +kernel
theorem dc_D_run_158 : decode bc_D_run 158 = .ok (.iload 5, 2) := by decide +kernel
theorem dc_D_run_160 : decode bc_D_run 160 = .ok (.invokevirtual 69, 3) := by decide +kernel
theorem dc_D_run_163 : decode bc_D_run 163 = .ok (.return_, 1) := by decide +kernel
theorem dc_D_takeOut_0 : decode bc_D_takeOut 0 = .ok (.aload_n 0, 1) := by decide +kernel
theorem dc_D_takeOut_1 : decode bc_D_takeOut 1 = .ok (.iload_n 1, 1) := by decide +kernel
theorem dc_D_takeOut_2 : decode bc_D_takeOut 2 = .ok (.iload_n 2, 1) := by decide +kernel
theorem dc_D_takeOut_3 : decode bc_D_takeOut 3 = .ok (.invokevirtual 72, 3) := by decide +kernel
theorem dc_D_takeOut_6 : decode bc_D_takeOut 6 = .ok (.lstore_n 3, 1) := by decide +kernel
theorem dc_D_takeOut_7 : decode bc_D_takeOut 7 = .ok (.lload_n 3, 1) := by decide +kernel
theorem dc_D_takeOut_8 : decode bc_D_takeOut 8 = .ok (.lconst 0, 1) := by decide +kernel
theorem dc_D_takeOut_9 : decode bc_D_takeOut 9 = .ok (.lcmp, 1) := by decide +kernel
theorem dc_D_takeOut_10 : decode bc_D_takeOut 10 = .ok (.ifCond .ne 5, 3) := by decide +kernel
theorem dc_D_takeOut_13 : decode bc_D_takeOut 13 = .ok (.lconst 0, 1) := by decide +kernel
theorem dc_D_takeOut_14 : decode bc_D_takeOut 14 = .ok (.lreturn, 1) := by decide +kernel
theorem dc_D_takeOut_15 : decode bc_D_takeOut 15 = .ok (.aload_n 0, 1) := by decide +kernel
theorem dc_D_takeOut_16 : decode bc_D_takeOut 16 = .ok (.iload_n 1, 1) := by decide +kernel
theorem dc_D_takeOut_17 : decode bc_D_takeOut 17 = .ok (.iload_n 2, 1) := by decide +kernel
theorem dc_D_takeOut_18 : decode bc_D_takeOut 18 = .ok (.lload_n 3, 1) := by decide +kernel
theorem dc_D_takeOut_19 : decode bc_D_takeOut 19 = .ok (.invokevirtual 75, 3) := by decide +kernel
theorem dc_D_takeOut_22 : decode bc_D_takeOut 22 = .ok (.ifCond .ne 5, 3) := by decide +kernel
theorem dc_D_takeOut_25 : decode bc_D_takeOut 25 = .ok (.lload_n 3, 1) := by decide +kernel
theorem dc_D_takeOut_26 : decode bc_D_takeOut 26 = .ok (.lreturn, 1) := by decide +kernel
theorem dc_D_takeOut_27 : decode bc_D_takeOut 27 = .ok (.aload_n 0, 1) := by decide +kernel
theorem dc_D_takeOut_28 : decode bc_D_takeOut 28 = .ok (.iload_n 1, 1) := by decide +kernel
theorem dc_D_takeOut_29 : decode bc_D_takeOut 29 = .ok (.iload_n 2, 1) := by decide +kernel
theorem dc_D_takeOut_30 : decode bc_D_takeOut 30 = .ok (.invokevirtual 79, 3) := by decide +kernel
theorem dc_D_takeOut_33 : decode bc_D_takeOut 33 = .ok (.lload_n 3, 1) := by decide +kernel
theorem dc_D_takeOut_34 : decode bc_D_takeOut 34 = .ok (.lconst 1, 1) := by decide +kernel
theorem dc_D_takeOut_35 : decode bc_D_takeOut 35 = .ok (.lsub, 1) := by decide +kernel
theorem dc_D_takeOut_36 : decode bc_D_takeOut 36 = .ok (.lreturn, 1) := by decide +kernel
theorem dc_D_guess_0 : decode bc_D_guess 0 = .ok (.aload_n 0, 1) := by decide +kernel
theorem dc_D_guess_1 : decode bc_D_guess 1 = .ok (.getfield 18, 3) := by decide +kernel
theorem dc_D_guess_4 : decode bc_D_guess 4 = .ok (.getfield 58, 3) := by decide +kernel
theorem dc_D_guess_7 : decode bc_D_guess 7 = .ok (.astore_n 3, 1) := by decide +kernel
theorem dc_D_guess_8 : decode bc_D_guess 8 = .ok (.aload_n 0, 1) := by decide +kernel
theorem dc_D_guess_9 : decode bc_D_guess 9 = .ok (.getfield 21, 3) := by decide +kernel
theorem dc_D_guess_12 : decode bc_D_guess 12 = .ok (.getfield 58, 3) := by decide +kernel
theorem dc_D_guess_15 : decode bc_D_guess 15 = .ok (.iload_n 2, 1) := by decide +kernel
theorem dc_D_guess_16 : decode bc_D_guess 16 = .ok (.iconst 1, 1) := by decide +kernel
theorem dc_D_guess_17 : decode bc_D_guess 17 = .ok (.isub, 1) := by decide +kernel
theorem dc_D_guess_18 : decode bc_D_guess 18 = .ok (.laload, 1) := by decide +kernel
theorem dc_D_guess_19 : decode bc_D_guess 19 = .ok (.lstore 4, 2) := by decide +kernel
theorem dc_D_guess_21 : decode bc_D_guess 21 = .ok (.aload_n 3, 1) := by decide +kernel
theorem dc_D_guess_22 : decode bc_D_guess 22 = .ok (.iload_n 1, 1) := by decide +kernel
theorem dc_D_guess_23 : decode bc_D_guess 23 = .ok (.iload_n 2, 1) := by decide +kernel
theorem dc_D_guess_24 : decode bc_D_guess 24 = .ok (.iadd, 1) := by decide +kernel
theorem dc_D_guess_25 : decode bc_D_guess 25 = .ok (.laload, 1) := by decide +kernel
theorem dc_D_guess_26 : decode bc_D_guess 26 = .ok (.bipush 32, 2) := by decide +kernel
theorem dc_D_guess_28 : decode bc_D_guess 28 = .ok (.lshl, 1) := by decide +kernel
theorem dc_D_guess_29 : decode bc_D_guess 29 = .ok (.aload_n 3, 1) := by decide +kernel
theorem dc_D_guess_30 : decode bc_D_guess 30 = .ok (.iload_n 1, 1) := by decide +kernel
theorem dc_D_guess_31 : decode bc_D_guess 31 = .ok (.iload_n 2, 1) := by decide +kernel
theorem dc_D_guess_32 : decode bc_D_guess 32 = .ok (.iadd, 1) := by decide +kernel
theorem dc_D_guess_33 : decode bc_D_guess 33 = .ok (.iconst 1, 1) := by decide +kernel
theorem dc_D_guess_34 : decode bc_D_guess 34 = .ok (.isub, 1) := by decide +kernel
theorem dc_D_guess_35 : decode bc_D_guess 35 = .ok (.laload, 1) := by decide +kernel
theorem dc_D_guess_36 : decode bc_D_guess 36 = .ok (.lor, 1) := by decide +kernel
theorem dc_D_guess_37 : decode bc_D_guess 37 = .ok (.lstore 6, 2) := by decide +kernel
theorem dc_D_guess_39 : decode bc_D_guess 39 = .ok (.ldc2_w 83, 3) := by decide +kernel
theorem dc_D_guess_42 : decode bc_D_guess 42 = .ok (.lstore 8, 2) := by decide +kernel
theorem dc_D_guess_44 : decode bc_D_guess 44 = .ok (.aload_n 3, 1) := by decide +kernel
theorem dc_D_guess_45 : decode bc_D_guess 45 = .ok (.iload_n 1, 1) := by decide +kernel
theorem dc_D_guess_46 : decode bc_D_guess 46 = .ok (.iload_n 2, 1) := by decide +kernel
theorem dc_D_guess_47 : decode bc_D_guess 47 = .ok (.iadd, 1) := by decide +kernel
theorem dc_D_guess_48 : decode bc_D_guess 48 = .ok (.laload, 1) := by decide +kernel
theorem dc_D_guess_49 : decode bc_D_guess 49 = .ok (.lload 4, 2) := by decide +kernel
theorem dc_D_guess_51 : decode bc_D_guess 51 = .ok (.lcmp, 1) := by decide +kernel
theorem dc_D_guess_52 : decode bc_D_guess 52 = .ok (.ifCond .ge 12, 3) := by decide +kernel
theorem dc_D_guess_55 : decode bc_D_guess 55 = .ok (.lload 6, 2) := by decide +kernel
theorem dc_D_guess_57 : decode bc_D_guess 57 = .ok (.lload 4, 2) := by decide +kernel
theorem dc_D_guess_59 : decode bc_D_guess 59 = .ok (.invokestatic 85, 3) := by decide +kernel
theorem dc_D_guess_62 : decode bc_D_guess 62 = .ok (.lstore 8, 2) := by decide +kernel
theorem dc_D_guess_64 : decode bc_D_guess 64 = .ok (.iload_n 2, 1) := by decide +kernel
theorem dc_D_guess_65 : decode bc_D_guess 65 = .ok (.iconst 2, 1) := by decide +kernel
theorem dc_D_guess_66 : decode bc_D_guess 66 = .ok (.if_icmp .ge 6, 3) := by decide +kernel
theorem dc_D_guess_69 : decode bc_D_guess 69 = .ok (.lload 8, 2) := by decide +kernel
theorem dc_D_guess_71 : decode bc_D_guess 71 = .ok (.lreturn, 1) := by decide +kernel
theorem dc_D_guess_72 : decode bc_D_guess 72 = .ok (.aload_n 0, 1) := by decide +kernel
theorem dc_D_guess_73 : decode bc_D_guess 73 = .ok (.getfield 21, 3) := by decide +kernel
theorem dc_D_guess_76 : decode bc_D_guess 76 = .ok (.getfield 58, 3) := by decide +kernel
theorem dc_D_guess_79 : decode bc_D_guess 79 = .ok (.iload_n 2, 1) := by decide +kernel
theorem dc_D_guess_80 : decode bc_D_guess 80 = .ok (.iconst 2, 1) := by decide +kernel
theorem dc_D_guess_81 : decode bc_D_guess 81 = .ok (.isub, 1) := by decide +kernel
theorem dc_D_guess_82 : decode bc_D_guess 82 = .ok (.laload, 1) := by decide +kernel
theorem dc_D_guess_83 : decode bc_D_guess 83 = .ok (.lstore 10, 2) := by decide +kernel
theorem dc_D_guess_85 : decode bc_D_guess 85 = .ok (.aload_n 3, 1) := by decide +kernel
theorem dc_D_guess_86 : decode bc_D_guess 86 = .ok (.iload_n 1, 1) := by decide +kernel
theorem dc_D_guess_87 : decode bc_D_guess 87 = .ok (.iload_n 2, 1) := by decide +kernel
theorem dc_D_guess_88 : decode bc_D_guess 88 = .ok (.iadd, 1) := by decide +kernel
theorem dc_D_guess_89 : decode bc_D_guess 89 = .ok (.iconst 2, 1) := by decide +kernel
theorem dc_D_guess_90 : decode bc_D_guess 90 = .ok (.isub, 1) := by decide +kernel
theorem dc_D_guess_91 : decode bc_D_guess 91 = .ok (.laload, 1) := by decide +kernel
theorem dc_D_guess_92 : decode bc_D_guess 92 = .ok (.lstore 12, 2) := by decide +kernel
theorem dc_D_guess_94 : decode bc_D_guess 94 = .ok (.lload 6, 2) := by decide +kernel
theorem dc_D_guess_96 : decode bc_D_guess 96 = .ok (.lload 8, 2) := by decide +kernel
theorem dc_D_guess_98 : decode bc_D_guess 98 = .ok (.lload 4, 2) := by decide +kernel
theorem dc_D_guess_100 : decode bc_D_guess 100 = .ok (.lmul, 1) := by decide +kernel
theorem dc_D_guess_101 : decode bc_D_guess 101 = .ok (.lsub, 1) := by decide +kernel
theorem dc_D_guess_102 : decode bc_D_guess 102 = .ok (.lstore 14, 2) := by decide +kernel
theorem dc_D_guess_104 : decode bc_D_guess 104 = .ok (.iconst 0, 1) := by decide +kernel
theorem dc_D_guess_105 : decode bc_D_guess 105 = .ok (.istore 16, 2) := by decide +kernel
theorem dc_D_guess_107 : decode bc_D_guess 107 = .ok (.iload 16, 2) := by decide +kernel
theorem dc_D_guess_109 : decode bc_D_guess 109 = .ok (.iconst 2, 1) := by decide +kernel
theorem dc_D_guess_110 : decode bc_D_guess 110 = .ok (.if_icmp .ge 53, 3) := by decide +kernel
theorem dc_D_guess_113 : decode bc_D_guess 113 = .ok (.lload 14, 2) := by decide +kernel
theorem dc_D_guess_115 : decode bc_D_guess 115 = .ok (.ldc2_w 83, 3) := by decide +kernel
theorem dc_D_guess_118 : decode bc_D_guess 118 = .ok (.lcmp, 1) := by decide +kernel
theorem dc_D_guess_119 : decode bc_D_guess 119 = .ok (.ifCond .gt 44, 3) := by decide +kernel
theorem dc_D_guess_122 : decode bc_D_guess 122 = .ok (.lload 8, 2) := by decide +kernel
theorem dc_D_guess_124 : decode bc_D_guess 124 = .ok (.lload 10, 2) := by decide +kernel
theorem dc_D_guess_126 : decode bc_D_guess 126 = .ok (.lmul, 1) := by decide +kernel
theorem dc_D_guess_127 : decode bc_D_guess 127 = .ok (.lload 14, 2) := by decide +kernel
theorem dc_D_guess_129 : decode bc_D_guess 129 = .ok (.bipush 32, 2) := by decide +kernel
theorem dc_D_guess_131 : decode bc_D_guess 131 = .ok (.lshl, 1) := by decide +kernel
theorem dc_D_guess_132 : decode bc_D_guess 132 = .ok (.lload 12, 2) := by decide +kernel
theorem dc_D_guess_134 : decode bc_D_guess 134 = .ok (.lor, 1) := by decide +kernel
theorem dc_D_guess_135 : decode bc_D_guess 135 = .ok (.invokestatic 89, 3) := by decide +kernel
theorem dc_D_guess_138 : decode bc_D_guess 138 = .ok (.ifCond .gt 6, 3) := by decide +kernel
theorem dc_D_guess_141 : decode bc_D_guess 141 = .ok (.goto 22, 3) := by decide +kernel
theorem dc_D_guess_144 : decode bc_D_guess 144 = .ok (.lload 8, 2) := by decide +kernel
theorem dc_D_guess_146 : decode bc_D_guess 146 = .ok (.lconst 1, 1) := by decide +kernel
theorem dc_D_guess_147 : decode bc_D_guess 147 = .ok (.lsub, 1) := by decide +kernel
theorem dc_D_guess_148 : decode bc_D_guess 148 = .ok (.lstore 8, 2) := by decide +kernel
theorem dc_D_guess_150 : decode bc_D_guess 150 = .ok (.lload 14, 2) := by decide +kernel
theorem dc_D_guess_152 : decode bc_D_guess 152 = .ok (.lload 4, 2) := by decide +kernel
theorem dc_D_guess_154 : decode bc_D_guess 154 = .ok (.ladd, 1) := by decide +kernel
theorem dc_D_guess_155 : decode bc_D_guess 155 = .ok (.lstore 14, 2) := by decide +kernel
theorem dc_D_guess_157 : decode bc_D_guess 157 = .ok (.iinc 16 1, 3) := by decide +kernel
theorem dc_D_guess_160 : decode bc_D_guess 160 = .ok (.goto (-53), 3) := by decide +kernel
theorem dc_D_guess_163 : decode bc_D_guess 163 = .ok (.lload 8, 2) := by decide +kernel
theorem dc_D_guess_165 : decode bc_D_guess 165 = .ok (.lreturn, 1) := by decide +kernel
theorem dc_D_quotientOfPair_0 : decode bc_D_quotientOfPair 0 = .ok (.lload_n 2, 1) := by decide +kernel
theorem dc_D_quotientOfPair_1 : decode bc_D_quotientOfPair 1 = .ok (.lconst 0, 1) := by decide +kernel
theorem dc_D_quotientOfPair_2 : decode bc_D_quotientOfPair 2 = .ok (.lcmp, 1) := by decide +kernel
theorem dc_D_quotientOfPair_3 : decode bc_D_quotientOfPair 3 = .ok (.ifCond .gt 5, 3) := by decide +kernel
theorem dc_D_quotientOfPair_6 : decode bc_D_quotientOfPair 6 = .ok (.lconst 0, 1) := by decide +kernel
theorem dc_D_quotientOfPair_7 : decode bc_D_quotientOfPair 7 = .ok (.lreturn, 1) := by decide +kernel
theorem dc_D_quotientOfPair_8 : decode bc_D_quotientOfPair 8 = .ok (.lload_n 0, 1) := by decide +kernel
theorem dc_D_quotientOfPair_9 : decode bc_D_quotientOfPair 9 = .ok (.iconst 1, 1) := by decide +kernel
theorem dc_D_quotientOfPair_10 : decode bc_D_quotientOfPair 10 = .ok (.lushr, 1) := by decide +kernel
theorem dc_D_quotientOfPair_11 : decode bc_D_quotientOfPair 11 = .ok (.lload_n 2, 1) := by decide +kernel
theorem dc_D_quotientOfPair_12 : decode bc_D_quotientOfPair 12 = .ok (.ldiv, 1) := by decide +kernel
theorem dc_D_quotientOfPair_13 : decode bc_D_quotientOfPair 13 = .ok (.iconst 1, 1) := by decide +kernel
theorem dc_D_quotientOfPair_14 : decode bc_D_quotientOfPair 14 = .ok (.lshl, 1) := by decide +kernel
theorem dc_D_quotientOfPair_15 : decode bc_D_quotientOfPair 15 = .ok (.lstore 4, 2) := by decide +kernel
theorem dc_D_quotientOfPair_17 : decode bc_D_quotientOfPair 17 = .ok (.lload_n 0, 1) := by decide +kernel
theorem dc_D_quotientOfPair_18 : decode bc_D_quotientOfPair 18 = .ok (.lload 4, 2) := by decide +kernel
theorem dc_D_quotientOfPair_20 : decode bc_D_quotientOfPair 20 = .ok (.lload_n 2, 1) := by decide +kernel
theorem dc_D_quotientOfPair_21 : decode bc_D_quotientOfPair 21 = .ok (.lmul, 1) := by decide +kernel
theorem dc_D_quotientOfPair_22 : decode bc_D_quotientOfPair 22 = .ok (.lsub, 1) := by decide +kernel
theorem dc_D_quotientOfPair_23 : decode bc_D_quotientOfPair 23 = .ok (.lload_n 2, 1) := by decide +kernel
theorem dc_D_quotientOfPair_24 : decode bc_D_quotientOfPair 24 = .ok (.lcmp, 1) := by decide +kernel
theorem dc_D_quotientOfPair_25 : decode bc_D_quotientOfPair 25 = .ok (.ifCond .lt 10, 3) := by decide +kernel
theorem dc_D_quotientOfPair_28 : decode bc_D_quotientOfPair 28 = .ok (.lload 4, 2) := by decide +kernel
theorem dc_D_quotientOfPair_30 : decode bc_D_quotientOfPair 30 = .ok (.lconst 1, 1) := by decide +kernel
theorem dc_D_quotientOfPair_31 : decode bc_D_quotientOfPair 31 = .ok (.ladd, 1) := by decide +kernel
theorem dc_D_quotientOfPair_32 : decode bc_D_quotientOfPair 32 = .ok (.goto 5, 3) := by decide +kernel
theorem dc_D_quotientOfPair_35 : decode bc_D_quotientOfPair 35 = .ok (.lload 4, 2) := by decide +kernel
theorem dc_D_quotientOfPair_37 : decode bc_D_quotientOfPair 37 = .ok (.lreturn, 1) := by decide +kernel
theorem dc_D_subtract_0 : decode bc_D_subtract 0 = .ok (.aload_n 0, 1) := by decide +kernel
theorem dc_D_subtract_1 : decode bc_D_subtract 1 = .ok (.getfield 18, 3) := by decide +kernel
theorem dc_D_subtract_4 : decode bc_D_subtract 4 = .ok (.getfield 58, 3) := by decide +kernel
theorem dc_D_subtract_7 : decode bc_D_subtract 7 = .ok (.astore 5, 2) := by decide +kernel
theorem dc_D_subtract_9 : decode bc_D_subtract 9 = .ok (.aload_n 0, 1) := by decide +kernel
theorem dc_D_subtract_10 : decode bc_D_subtract 10 = .ok (.getfield 21, 3) := by decide +kernel
theorem dc_D_subtract_13 : decode bc_D_subtract 13 = .ok (.getfield 58, 3) := by decide +kernel
theorem dc_D_subtract_16 : decode bc_D_subtract 16 = .ok (.astore 6, 2) := by decide +kernel
theorem dc_D_subtract_18 : decode bc_D_subtract 18 = .ok (.lconst 0, 1) := by decide +kernel
theorem dc_D_subtract_19 : decode bc_D_subtract 19 = .ok (.lstore 7, 2) := by decide +kernel
theorem dc_D_subtract_21 : decode bc_D_subtract 21 = .ok (.iconst 0, 1) := by decide +kernel
theorem dc_D_subtract_22 : decode bc_D_subtract 22 = .ok (.istore 9, 2) := by decide +kernel
theorem dc_D_subtract_24 : decode bc_D_subtract 24 = .ok (.iload 9, 2) := by decide +kernel
theorem dc_D_subtract_26 : decode bc_D_subtract 26 = .ok (.iload_n 2, 1) := by decide +kernel
theorem dc_D_subtract_27 : decode bc_D_subtract 27 = .ok (.if_icmp .ge 63, 3) := by decide +kernel
theorem dc_D_subtract_30 : decode bc_D_subtract 30 = .ok (.lload_n 3, 1) := by decide +kernel
theorem dc_D_subtract_31 : decode bc_D_subtract 31 = .ok (.aload 6, 2) := by decide +kernel
theorem dc_D_subtract_33 : decode bc_D_subtract 33 = .ok (.iload 9, 2) := by decide +kernel
theorem dc_D_subtract_35 : decode bc_D_subtract 35 = .ok (.laload, 1) := by decide +kernel
theorem dc_D_subtract_36 : decode bc_D_subtract 36 = .ok (.lmul, 1) := by decide +kernel
theorem dc_D_subtract_37 : decode bc_D_subtract 37 = .ok (.lload 7, 2) := by decide +kernel
theorem dc_D_subtract_39 : decode bc_D_subtract 39 = .ok (.ladd, 1) := by decide +kernel
theorem dc_D_subtract_40 : decode bc_D_subtract 40 = .ok (.lstore 10, 2) := by decide +kernel
theorem dc_D_subtract_42 : decode bc_D_subtract 42 = .ok (.aload 5, 2) := by decide +kernel
theorem dc_D_subtract_44 : decode bc_D_subtract 44 = .ok (.iload_n 1, 1) := by decide +kernel
theorem dc_D_subtract_45 : decode bc_D_subtract 45 = .ok (.iload 9, 2) := by decide +kernel
theorem dc_D_subtract_47 : decode bc_D_subtract 47 = .ok (.iadd, 1) := by decide +kernel
theorem dc_D_subtract_48 : decode bc_D_subtract 48 = .ok (.laload, 1) := by decide +kernel
theorem dc_D_subtract_49 : decode bc_D_subtract 49 = .ok (.lload 10, 2) := by decide +kernel
theorem dc_D_subtract_51 : decode bc_D_subtract 51 = .ok (.ldc2_w 83, 3) := by decide +kernel
theorem dc_D_subtract_54 : decode bc_D_subtract 54 = .ok (.land, 1) := by decide +kernel
theorem dc_D_subtract_55 : decode bc_D_subtract 55 = .ok (.lsub, 1) := by decide +kernel
theorem dc_D_subtract_56 : decode bc_D_subtract 56 = .ok (.lstore 12, 2) := by decide +kernel
theorem dc_D_subtract_58 : decode bc_D_subtract 58 = .ok (.aload 5, 2) := by decide +kernel
theorem dc_D_subtract_60 : decode bc_D_subtract 60 = .ok (.iload_n 1, 1) := by decide +kernel
theorem dc_D_subtract_61 : decode bc_D_subtract 61 = .ok (.iload 9, 2) := by decide +kernel
theorem dc_D_subtract_63 : decode bc_D_subtract 63 = .ok (.iadd, 1) := by decide +kernel
theorem dc_D_subtract_64 : decode bc_D_subtract 64 = .ok (.lload 12, 2) := by decide +kernel
theorem dc_D_subtract_66 : decode bc_D_subtract 66 = .ok (.ldc2_w 83, 3) := by decide +kernel
theorem dc_D_subtract_69 : decode bc_D_subtract 69 = .ok (.land, 1) := by decide +kernel
theorem dc_D_subtract_70 : decode bc_D_subtract 70 = .ok (.lastore, 1) := by decide +kernel
theorem dc_D_subtract_71 : decode bc_D_subtract 71 = .ok (.lload 10, 2) := by decide +kernel
theorem dc_D_subtract_73 : decode bc_D_subtract 73 = .ok (.bipush 32, 2) := by decide +kernel
theorem dc_D_subtract_75 : decode bc_D_subtract 75 = .ok (.lushr, 1) := by decide +kernel
theorem dc_D_subtract_76 : decode bc_D_subtract 76 = .ok (.lload 12, 2) := by decide +kernel
theorem dc_D_subtract_78 : decode bc_D_subtract 78 = .ok (.bipush 63, 2) := by decide +kernel
theorem dc_D_subtract_80 : decode bc_D_subtract 80 = .ok (.lushr, 1) := by decide +kernel
theorem dc_D_subtract_81 : decode bc_D_subtract 81 = .ok (.ladd, 1) := by decide +kernel
theorem dc_D_subtract_82 : decode bc_D_subtract 82 = .ok (.lstore 7, 2) := by decide +kernel
theorem dc_D_subtract_84 : decode bc_D_subtract 84 = .ok (.iinc 9 1, 3) := by decide +kernel
theorem dc_D_subtract_87 : decode bc_D_subtract 87 = .ok (.goto (-63), 3) := by decide +kernel
theorem dc_D_subtract_90 : decode bc_D_subtract 90 = .ok (.aload 5, 2) := by decide +kernel
theorem dc_D_subtract_92 : decode bc_D_subtract 92 = .ok (.iload_n 1, 1) := by decide +kernel
theorem dc_D_subtract_93 : decode bc_D_subtract 93 = .ok (.iload_n 2, 1) := by decide +kernel
theorem dc_D_subtract_94 : decode bc_D_subtract 94 = .ok (.iadd, 1) := by decide +kernel
theorem dc_D_subtract_95 : decode bc_D_subtract 95 = .ok (.laload, 1) := by decide +kernel
theorem dc_D_subtract_96 : decode bc_D_subtract 96 = .ok (.lload 7, 2) := by decide +kernel
theorem dc_D_subtract_98 : decode bc_D_subtract 98 = .ok (.lsub, 1) := by decide +kernel
theorem dc_D_subtract_99 : decode bc_D_subtract 99 = .ok (.lstore 9, 2) := by decide +kernel
theorem dc_D_subtract_101 : decode bc_D_subtract 101 = .ok (.aload 5, 2) := by decide +kernel
theorem dc_D_subtract_103 : decode bc_D_subtract 103 = .ok (.iload_n 1, 1) := by decide +kernel
theorem dc_D_subtract_104 : decode bc_D_subtract 104 = .ok (.iload_n 2, 1) := by decide +kernel
theorem dc_D_subtract_105 : decode bc_D_subtract 105 = .ok (.iadd, 1) := by decide +kernel
theorem dc_D_subtract_106 : decode bc_D_subtract 106 = .ok (.lload 9, 2) := by decide +kernel
theorem dc_D_subtract_108 : decode bc_D_subtract 108 = .ok (.ldc2_w 83, 3) := by decide +kernel
theorem dc_D_subtract_111 : decode bc_D_subtract 111 = .ok (.land, 1) := by decide +kernel
theorem dc_D_subtract_112 : decode bc_D_subtract 112 = .ok (.lastore, 1) := by decide +kernel
theorem dc_D_subtract_113 : decode bc_D_subtract 113 = .ok (.lload 9, 2) := by decide +kernel
theorem dc_D_subtract_115 : decode bc_D_subtract 115 = .ok (.lconst 0, 1) := by decide +kernel
theorem dc_D_subtract_116 : decode bc_D_subtract 116 = .ok (.lcmp, 1) := by decide +kernel
theorem dc_D_subtract_117 : decode bc_D_subtract 117 = .ok (.ifCond .ge 7, 3) := by decide +kernel
theorem dc_D_subtract_120 : decode bc_D_subtract 120 = .ok (.iconst 1, 1) := by decide +kernel
theorem dc_D_subtract_121 : decode bc_D_subtract 121 = .ok (.goto 4, 3) := by decide +kernel
theorem dc_D_subtract_124 : decode bc_D_subtract 124 = .ok (.iconst 0, 1) := by decide +kernel
theorem dc_D_subtract_125 : decode bc_D_subtract 125 = .ok (.ireturn, 1) := by decide +kernel
theorem dc_D_addBack_0 : decode bc_D_addBack 0 = .ok (.aload_n 0, 1) := by decide +kernel
theorem dc_D_addBack_1 : decode bc_D_addBack 1 = .ok (.getfield 18, 3) := by decide +kernel
theorem dc_D_addBack_4 : decode bc_D_addBack 4 = .ok (.getfield 58, 3) := by decide +kernel
theorem dc_D_addBack_7 : decode bc_D_addBack 7 = .ok (.astore_n 3, 1) := by decide +kernel
theorem dc_D_addBack_8 : decode bc_D_addBack 8 = .ok (.aload_n 0, 1) := by decide +kernel
theorem dc_D_addBack_9 : decode bc_D_addBack 9 = .ok (.getfield 21, 3) := by decide +kernel
theorem dc_D_addBack_12 : decode bc_D_addBack 12 = .ok (.getfield 58, 3) := by decide +kernel
theorem dc_D_addBack_15 : decode bc_D_addBack 15 = .ok (.astore 4, 2) := by decide +kernel
theorem dc_D_addBack_17 : decode bc_D_addBack 17 = .ok (.lconst 0, 1) := by decide +kernel
theorem dc_D_addBack_18 : decode bc_D_addBack 18 = .ok (.lstore 5, 2) := by decide +kernel
theorem dc_D_addBack_20 : decode bc_D_addBack 20 = .ok (.iconst 0, 1) := by decide +kernel
theorem dc_D_addBack_21 : decode bc_D_addBack 21 = .ok (.istore 7, 2) := by decide +kernel
theorem dc_D_addBack_23 : decode bc_D_addBack 23 = .ok (.iload 7, 2) := by decide +kernel
theorem dc_D_addBack_25 : decode bc_D_addBack 25 = .ok (.iload_n 2, 1) := by decide +kernel
theorem dc_D_addBack_26 : decode bc_D_addBack 26 = .ok (.if_icmp .ge 45, 3) := by decide +kernel
theorem dc_D_addBack_29 : decode bc_D_addBack 29 = .ok (.aload_n 3, 1) := by decide +kernel
theorem dc_D_addBack_30 : decode bc_D_addBack 30 = .ok (.iload_n 1, 1) := by decide +kernel
theorem dc_D_addBack_31 : decode bc_D_addBack 31 = .ok (.iload 7, 2) := by decide +kernel
theorem dc_D_addBack_33 : decode bc_D_addBack 33 = .ok (.iadd, 1) := by decide +kernel
theorem dc_D_addBack_34 : decode bc_D_addBack 34 = .ok (.laload, 1) := by decide +kernel
theorem dc_D_addBack_35 : decode bc_D_addBack 35 = .ok (.aload 4, 2) := by decide +kernel
theorem dc_D_addBack_37 : decode bc_D_addBack 37 = .ok (.iload 7, 2) := by decide +kernel
theorem dc_D_addBack_39 : decode bc_D_addBack 39 = .ok (.laload, 1) := by decide +kernel
theorem dc_D_addBack_40 : decode bc_D_addBack 40 = .ok (.ladd, 1) := by decide +kernel
theorem dc_D_addBack_41 : decode bc_D_addBack 41 = .ok (.lload 5, 2) := by decide +kernel
theorem dc_D_addBack_43 : decode bc_D_addBack 43 = .ok (.ladd, 1) := by decide +kernel
theorem dc_D_addBack_44 : decode bc_D_addBack 44 = .ok (.lstore 8, 2) := by decide +kernel
theorem dc_D_addBack_46 : decode bc_D_addBack 46 = .ok (.aload_n 3, 1) := by decide +kernel
theorem dc_D_addBack_47 : decode bc_D_addBack 47 = .ok (.iload_n 1, 1) := by decide +kernel
theorem dc_D_addBack_48 : decode bc_D_addBack 48 = .ok (.iload 7, 2) := by decide +kernel
theorem dc_D_addBack_50 : decode bc_D_addBack 50 = .ok (.iadd, 1) := by decide +kernel
theorem dc_D_addBack_51 : decode bc_D_addBack 51 = .ok (.lload 8, 2) := by decide +kernel
theorem dc_D_addBack_53 : decode bc_D_addBack 53 = .ok (.ldc2_w 83, 3) := by decide +kernel
theorem dc_D_addBack_56 : decode bc_D_addBack 56 = .ok (.land, 1) := by decide +kernel
theorem dc_D_addBack_57 : decode bc_D_addBack 57 = .ok (.lastore, 1) := by decide +kernel
theorem dc_D_addBack_58 : decode bc_D_addBack 58 = .ok (.lload 8, 2) := by decide +kernel
theorem dc_D_addBack_60 : decode bc_D_addBack 60 = .ok (.bipush 32, 2) := by decide +kernel
theorem dc_D_addBack_62 : decode bc_D_addBack 62 = .ok (.lushr, 1) := by decide +kernel
theorem dc_D_addBack_63 : decode bc_D_addBack 63 = .ok (.lstore 5, 2) := by decide +kernel
theorem dc_D_addBack_65 : decode bc_D_addBack 65 = .ok (.iinc 7 1, 3) := by decide +kernel
theorem dc_D_addBack_68 : decode bc_D_addBack 68 = .ok (.goto (-45), 3) := by decide +kernel
theorem dc_D_addBack_71 : decode bc_D_addBack 71 = .ok (.aload_n 3, 1) := by decide +kernel
theorem dc_D_addBack_72 : decode bc_D_addBack 72 = .ok (.iload_n 1, 1) := by decide +kernel
theorem dc_D_addBack_73 : decode bc_D_addBack 73 = .ok (.iload_n 2, 1) := by decide +kernel
theorem dc_D_addBack_74 : decode bc_D_addBack 74 = .ok (.iadd, 1) := by decide +kernel
theorem dc_D_addBack_75 : decode bc_D_addBack 75 = .ok (.aload_n 3, 1) := by decide +kernel
theorem dc_D_addBack_76 : decode bc_D_addBack 76 = .ok (.iload_n 1, 1) := by decide +kernel
theorem dc_D_addBack_77 : decode bc_D_addBack 77 = .ok (.iload_n 2, 1) := by decide +kernel
theorem dc_D_addBack_78 : decode bc_D_addBack 78 = .ok (.iadd, 1) := by decide +kernel
theorem dc_D_addBack_79 : decode bc_D_addBack 79 = .ok (.laload, 1) := by decide +kernel
theorem dc_D_addBack_80 : decode bc_D_addBack 80 = .ok (.lload 5, 2) := by decide +kernel
theorem dc_D_addBack_82 : decode bc_D_addBack 82 = .ok (.ladd, 1) := by decide +kernel
theorem dc_D_addBack_83 : decode bc_D_addBack 83 = .ok (.ldc2_w 83, 3) := by decide +kernel
theorem dc_D_addBack_86 : decode bc_D_addBack 86 = .ok (.land, 1) := by decide +kernel
theorem dc_D_addBack_87 : decode bc_D_addBack 87 = .ok (.lastore, 1) := by decide +kernel
theorem dc_D_addBack_88 : decode bc_D_addBack 88 = .ok (.return_, 1) := by decide +kernel
