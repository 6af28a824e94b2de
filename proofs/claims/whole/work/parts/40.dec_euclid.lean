theorem dc_E_init_0 : decode bc_E_init 0 = .ok (.aload_n 0, 1) := by decide +kernel
theorem dc_E_init_1 : decode bc_E_init 1 = .ok (.invokespecial 3, 3) := by decide +kernel
theorem dc_E_init_4 : decode bc_E_init 4 = .ok (.aload_n 0, 1) := by decide +kernel
theorem dc_E_init_5 : decode bc_E_init 5 = .ok (.new 9, 3) := by decide +kernel
theorem dc_E_init_8 : decode bc_E_init 8 = .ok (.dup, 1) := by decide +kernel
theorem dc_E_init_9 : decode bc_E_init 9 = .ok (.invokespecial 11, 3) := by decide +kernel
theorem dc_E_init_12 : decode bc_E_init 12 = .ok (.putfield 12, 3) := by decide +kernel
theorem dc_E_init_15 : decode bc_E_init 15 = .ok (.aload_n 0, 1) := by decide +kernel
theorem dc_E_init_16 : decode bc_E_init 16 = .ok (.new 9, 3) := by decide +kernel
theorem dc_E_init_19 : decode bc_E_init 19 = .ok (.dup, 1) := by decide +kernel
theorem dc_E_init_20 : decode bc_E_init 20 = .ok (.invokespecial 11, 3) := by decide +kernel
theorem dc_E_init_23 : decode bc_E_init 23 = .ok (.putfield 18, 3) := by decide +kernel
theorem dc_E_init_26 : decode bc_E_init 26 = .ok (.aload_n 0, 1) := by decide +kernel
theorem dc_E_init_27 : decode bc_E_init 27 = .ok (.iconst 0, 1) := by decide +kernel
theorem dc_E_init_28 : decode bc_E_init 28 = .ok (.putfield 21, 3) := by decide +kernel
theorem dc_E_init_31 : decode bc_E_init 31 = .ok (.aload_n 0, 1) := by decide +kernel
theorem dc_E_init_32 : decode bc_E_init 32 = .ok (.new 9, 3) := by decide +kernel
theorem dc_E_init_35 : decode bc_E_init 35 = .ok (.dup, 1) := by decide +kernel
theorem dc_E_init_36 : decode bc_E_init 36 = .ok (.invokespecial 11, 3) := by decide +kernel
theorem dc_E_init_39 : decode bc_E_init 39 = .ok (.putfield 25, 3) := by decide +kernel
theorem dc_E_init_42 : decode bc_E_init 42 = .ok (.aload_n 0, 1) := by decide +kernel
theorem dc_E_init_43 : decode bc_E_init 43 = .ok (.new 9, 3) := by decide +kernel
theorem dc_E_init_46 : decode bc_E_init 46 = .ok (.dup, 1) := by decide +kernel
theorem dc_E_init_47 : decode bc_E_init 47 = .ok (.invokespecial 11, 3) := by decide +kernel
theorem dc_E_init_50 : decode bc_E_init 50 = .ok (.putfield 28, 3) := by decide +kernel
theorem dc_E_init_53 : decode bc_E_init 53 = .ok (.aload_n 0, 1) := by decide +kernel
theorem dc_E_init_54 : decode bc_E_init 54 = .ok (.new 9, 3) := by decide +kernel
theorem dc_E_init_57 : decode bc_E_init 57 = .ok (.dup, 1) := by decide +kernel
theorem dc_E_init_58 : decode bc_E_init 58 = .ok (.invokespecial 11, 3) := by decide +kernel
theorem dc_E_init_61 : decode bc_E_init 61 = .ok (.putfield 31, 3) := by decide +kernel
theorem dc_E_init_64 : decode bc_E_init 64 = .ok (.aload_n 0, 1) := by decide +kernel
theorem dc_E_init_65 : decode bc_E_init 65 = .ok (.new 34, 3) := by decide +kernel
theorem dc_E_init_68 : decode bc_E_init 68 = .ok (.dup, 1) := by decide +kernel
theorem dc_E_init_69 : decode bc_E_init 69 = .ok (.invokespecial 36, 3) := by decide +kernel
theorem dc_E_init_72 : decode bc_E_init 72 = .ok (.putfield 37, 3) := by decide +kernel
theorem dc_E_init_75 : decode bc_E_init 75 = .ok (.aload_n 0, 1) := by decide +kernel
theorem dc_E_init_76 : decode bc_E_init 76 = .ok (.lconst 1, 1) := by decide +kernel
theorem dc_E_init_77 : decode bc_E_init 77 = .ok (.putfield 41, 3) := by decide +kernel
theorem dc_E_init_80 : decode bc_E_init 80 = .ok (.aload_n 0, 1) := by decide +kernel
theorem dc_E_init_81 : decode bc_E_init 81 = .ok (.lconst 0, 1) := by decide +kernel
theorem dc_E_init_82 : decode bc_E_init 82 = .ok (.putfield 45, 3) := by decide +kernel
theorem dc_E_init_85 : decode bc_E_init 85 = .ok (.aload_n 0, 1) := by decide +kernel
theorem dc_E_init_86 : decode bc_E_init 86 = .ok (.lconst 0, 1) := by decide +kernel
theorem dc_E_init_87 : decode bc_E_init 87 = .ok (.putfield 48, 3) := by decide +kernel
theorem dc_E_init_90 : decode bc_E_init 90 = .ok (.aload_n 0, 1) := by decide +kernel
theorem dc_E_init_91 : decode bc_E_init 91 = .ok (.lconst 1, 1) := by decide +kernel
theorem dc_E_init_92 : decode bc_E_init 92 = .ok (.putfield 51, 3) := by decide +kernel
theorem dc_E_init_95 : decode bc_E_init 95 = .ok (.return_, 1) := by decide +kernel
theorem dc_E_run_0 : decode bc_E_run 0 = .ok (.aload_n 1, 1) := by decide +kernel
theorem dc_E_run_1 : decode bc_E_run 1 = .ok (.aload_n 2, 1) := by decide +kernel
theorem dc_E_run_2 : decode bc_E_run 2 = .ok (.invokevirtual 54, 3) := by decide +kernel
theorem dc_E_run_5 : decode bc_E_run 5 = .ok (.ifCond .lt 7, 3) := by decide +kernel
theorem dc_E_run_8 : decode bc_E_run 8 = .ok (.iconst 1, 1) := by decide +kernel
theorem dc_E_run_9 : decode bc_E_run 9 = .ok (.goto 4, 3) := by decide +kernel
theorem dc_E_run_12 : decode bc_E_run 12 = .ok (.iconst 0, 1) := by decide +kernel
theorem dc_E_run_13 : decode bc_E_run 13 = .ok (.istore 4, 2) := by decide +kernel
theorem dc_E_run_15 : decode bc_E_run 15 = .ok (.aload_n 0, 1) := by decide +kernel
theorem dc_E_run_16 : decode bc_E_run 16 = .ok (.getfield 12, 3) := by decide +kernel
theorem dc_E_run_19 : decode bc_E_run 19 = .ok (.iload 4, 2) := by decide +kernel
theorem dc_E_run_21 : decode bc_E_run 21 = .ok (.ifCond .eq 7, 3) := by decide +kernel
theorem dc_E_run_24 : decode bc_E_run 24 = .ok (.aload_n 1, 1) := by decide +kernel
theorem dc_E_run_25 : decode bc_E_run 25 = .ok (.goto 4, 3) := by decide +kernel
theorem dc_E_run_28 : decode bc_E_run 28 = .ok (.aload_n 2, 1) := by decide +kernel
theorem dc_E_run_29 : decode bc_E_run 29 = .ok (.invokevirtual 58, 3) := by decide +kernel
theorem dc_E_run_32 : decode bc_E_run 32 = .ok (.aload_n 0, 1) := by decide +kernel
theorem dc_E_run_33 : decode bc_E_run 33 = .ok (.getfield 25, 3) := by decide +kernel
theorem dc_E_run_36 : decode bc_E_run 36 = .ok (.iload 4, 2) := by decide +kernel
theorem dc_E_run_38 : decode bc_E_run 38 = .ok (.ifCond .eq 7, 3) := by decide +kernel
theorem dc_E_run_41 : decode bc_E_run 41 = .ok (.aload_n 2, 1) := by decide +kernel
theorem dc_E_run_42 : decode bc_E_run 42 = .ok (.goto 4, 3) := by decide +kernel
theorem dc_E_run_45 : decode bc_E_run 45 = .ok (.aload_n 1, 1) := by decide +kernel
theorem dc_E_run_46 : decode bc_E_run 46 = .ok (.invokevirtual 58, 3) := by decide +kernel
theorem dc_E_run_49 : decode bc_E_run 49 = .ok (.aload_n 0, 1) := by decide +kernel
theorem dc_E_run_50 : decode bc_E_run 50 = .ok (.getfield 18, 3) := by decide +kernel
theorem dc_E_run_53 : decode bc_E_run 53 = .ok (.invokevirtual 62, 3) := by decide +kernel
theorem dc_E_run_56 : decode bc_E_run 56 = .ok (.aload_n 0, 1) := by decide +kernel
theorem dc_E_run_57 : decode bc_E_run 57 = .ok (.getfield 28, 3) := by decide +kernel
theorem dc_E_run_60 : decode bc_E_run 60 = .ok (.lconst 1, 1) := by decide +kernel
theorem dc_E_run_61 : decode bc_E_run 61 = .ok (.invokevirtual 65, 3) := by decide +kernel
theorem dc_E_run_64 : decode bc_E_run 64 = .ok (.aload_n 0, 1) := by decide +kernel
theorem dc_E_run_65 : decode bc_E_run 65 = .ok (.iconst 1, 1) := by decide +kernel
theorem dc_E_run_66 : decode bc_E_run 66 = .ok (.putfield 21, 3) := by decide +kernel
theorem dc_E_run_69 : decode bc_E_run 69 = .ok (.iconst 0, 1) := by decide +kernel
theorem dc_E_run_70 : decode bc_E_run 70 = .ok (.istore 5, 2) := by decide +kernel
theorem dc_E_run_72 : decode bc_E_run 72 = .ok (.iload 5, 2) := by decide +kernel
theorem dc_E_run_74 : decode bc_E_run 74 = .ok (.ldc 69, 2) := by decide +kernel
theorem dc_E_run_76 : decode bc_E_run 76 = .ok (.if_icmp .ge 54, 3) := by decide +kernel
theorem dc_E_run_79 : decode bc_E_run 79 = .ok (.aload_n 0, 1) := by decide +kernel
theorem dc_E_run_80 : decode bc_E_run 80 = .ok (.getfield 25, 3) := by decide +kernel
theorem dc_E_run_83 : decode bc_E_run 83 = .ok (.invokevirtual 70, 3) := by decide +kernel
theorem dc_E_run_86 : decode bc_E_run 86 = .ok (.ifCond .ne 44, 3) := by decide +kernel
theorem dc_E_run_89 : decode bc_E_run 89 = .ok (.aload_n 0, 1) := by decide +kernel
theorem dc_E_run_90 : decode bc_E_run 90 = .ok (.invokevirtual 74, 3) := by decide +kernel
theorem dc_E_run_93 : decode bc_E_run 93 = .ok (.ifCond .eq 11, 3) := by decide +kernel
theorem dc_E_run_96 : decode bc_E_run 96 = .ok (.aload_n 0, 1) := by decide +kernel
theorem dc_E_run_97 : decode bc_E_run 97 = .ok (.iload_n 3, 1) := by decide +kernel
theorem dc_E_run_98 : decode bc_E_run 98 = .ok (.invokevirtual 77, 3) := by decide +kernel
theorem dc_E_run_101 : decode bc_E_run 101 = .ok (.goto 23, 3) := by decide +kernel
theorem dc_E_run_104 : decode bc_E_run 104 = .ok (.aload_n 0, 1) := by decide +kernel
theorem dc_E_run_105 : decode bc_E_run 105 = .ok (.getfield 37, 3) := by decide +kernel
theorem dc_E_run_108 : decode bc_E_run 108 = .ok (.aload_n 0, 1) := by decide +kernel
theorem dc_E_run_109 : decode bc_E_run 109 = .ok (.getfield 12, 3) := by decide +kernel
theorem dc_E_run_112 : decode bc_E_run 112 = .ok (.aload_n 0, 1) := by decide +kernel
theorem dc_E_run_113 : decode bc_E_run 113 = .ok (.getfield 25, 3) := by decide +kernel
theorem dc_E_run_116 : decode bc_E_run 116 = .ok (.invokevirtual 81, 3) := by decide +kernel
theorem dc_E_run_119 : decode bc_E_run 119 = .ok (.aload_n 0, 1) := by decide +kernel
theorem dc_E_run_120 : decode bc_E_run 120 = .ok (.iload_n 3, 1) := by decide +kernel
theorem dc_E_run_121 : decode bc_E_run 121 = .ok (.invokevirtual 85, 3) := by decide +kernel
theorem dc_E_run_124 : decode bc_E_run 124 = .ok (.iinc 5 1, 3) := by decide +kernel
theorem dc_E_run_127 : decode bc_E_run 127 = .ok (.goto (-55), 3) := by decide +kernel
theorem dc_E_run_130 : decode bc_E_run 130 = .ok (.return_, 1) := by decide +kernel
theorem dc_E_foresee_0 : decode bc_E_foresee 0 = .ok (.iconst 0, 1) := by decide +kernel
theorem dc_E_foresee_1 : decode bc_E_foresee 1 = .ok (.aload_n 0, 1) := by decide +kernel
theorem dc_E_foresee_2 : decode bc_E_foresee 2 = .ok (.getfield 12, 3) := by decide +kernel
theorem dc_E_foresee_5 : decode bc_E_foresee 5 = .ok (.invokevirtual 88, 3) := by decide +kernel
theorem dc_E_foresee_8 : decode bc_E_foresee 8 = .ok (.bipush 62, 2) := by decide +kernel
theorem dc_E_foresee_10 : decode bc_E_foresee 10 = .ok (.isub, 1) := by decide +kernel
theorem dc_E_foresee_11 : decode bc_E_foresee 11 = .ok (.invokestatic 92, 3) := by decide +kernel
theorem dc_E_foresee_14 : decode bc_E_foresee 14 = .ok (.istore_n 1, 1) := by decide +kernel
theorem dc_E_foresee_15 : decode bc_E_foresee 15 = .ok (.aload_n 0, 1) := by decide +kernel
theorem dc_E_foresee_16 : decode bc_E_foresee 16 = .ok (.getfield 12, 3) := by decide +kernel
theorem dc_E_foresee_19 : decode bc_E_foresee 19 = .ok (.iload_n 1, 1) := by decide +kernel
theorem dc_E_foresee_20 : decode bc_E_foresee 20 = .ok (.invokevirtual 98, 3) := by decide +kernel
theorem dc_E_foresee_23 : decode bc_E_foresee 23 = .ok (.lstore_n 2, 1) := by decide +kernel
theorem dc_E_foresee_24 : decode bc_E_foresee 24 = .ok (.aload_n 0, 1) := by decide +kernel
theorem dc_E_foresee_25 : decode bc_E_foresee 25 = .ok (.getfield 25, 3) := by decide +kernel
theorem dc_E_foresee_28 : decode bc_E_foresee 28 = .ok (.iload_n 1, 1) := by decide +kernel
theorem dc_E_foresee_29 : decode bc_E_foresee 29 = .ok (.invokevirtual 98, 3) := by decide +kernel
theorem dc_E_foresee_32 : decode bc_E_foresee 32 = .ok (.lstore 4, 2) := by decide +kernel
theorem dc_E_foresee_34 : decode bc_E_foresee 34 = .ok (.aload_n 0, 1) := by decide +kernel
theorem dc_E_foresee_35 : decode bc_E_foresee 35 = .ok (.lconst 1, 1) := by decide +kernel
theorem dc_E_foresee_36 : decode bc_E_foresee 36 = .ok (.putfield 41, 3) := by decide +kernel
theorem dc_E_foresee_39 : decode bc_E_foresee 39 = .ok (.aload_n 0, 1) := by decide +kernel
theorem dc_E_foresee_40 : decode bc_E_foresee 40 = .ok (.lconst 0, 1) := by decide +kernel
theorem dc_E_foresee_41 : decode bc_E_foresee 41 = .ok (.putfield 45, 3) := by decide +kernel
theorem dc_E_foresee_44 : decode bc_E_foresee 44 = .ok (.aload_n 0, 1) := by decide +kernel
theorem dc_E_foresee_45 : decode bc_E_foresee 45 = .ok (.lconst 0, 1) := by decide +kernel
theorem dc_E_foresee_46 : decode bc_E_foresee 46 = .ok (.putfield 48, 3) := by decide +kernel
theorem dc_E_foresee_49 : decode bc_E_foresee 49 = .ok (.aload_n 0, 1) := by decide +kernel
theorem dc_E_foresee_50 : decode bc_E_foresee 50 = .ok (.lconst 1, 1) := by decide +kernel
theorem dc_E_foresee_51 : decode bc_E_foresee 51 = .ok (.putfield 51, 3) := by decide +kernel
theorem dc_E_foresee_54 : decode bc_E_foresee 54 = .ok (.iconst 0, 1) := by decide +kernel
theorem dc_E_foresee_55 : decode bc_E_foresee 55 = .ok (.istore 6, 2) := by decide +kernel
theorem dc_E_foresee_57 : decode bc_E_foresee 57 = .ok (.iload 6, 2) := by decide +kernel
theorem dc_E_foresee_59 : decode bc_E_foresee 59 = .ok (.bipush 64, 2) := by decide +kernel
theorem dc_E_foresee_61 : decode bc_E_foresee 61 = .ok (.if_icmp .ge 100, 3) := by decide +kernel
theorem dc_E_foresee_64 : decode bc_E_foresee 64 = .ok (.lload 4, 2) := by decide +kernel
theorem dc_E_foresee_66 : decode bc_E_foresee 66 = .ok (.aload_n 0, 1) := by decide +kernel
theorem dc_E_foresee_67 : decode bc_E_foresee 67 = .ok (.getfield 48, 3) := by decide +kernel
theorem dc_E_foresee_70 : decode bc_E_foresee 70 = .ok (.ladd, 1) := by decide +kernel
theorem dc_E_foresee_71 : decode bc_E_foresee 71 = .ok (.lconst 0, 1) := by decide +kernel
theorem dc_E_foresee_72 : decode bc_E_foresee 72 = .ok (.lcmp, 1) := by decide +kernel
theorem dc_E_foresee_73 : decode bc_E_foresee 73 = .ok (.ifCond .le 88, 3) := by decide +kernel
theorem dc_E_foresee_76 : decode bc_E_foresee 76 = .ok (.lload 4, 2) := by decide +kernel
theorem dc_E_foresee_78 : decode bc_E_foresee 78 = .ok (.aload_n 0, 1) := by decide +kernel
theorem dc_E_foresee_79 : decode bc_E_foresee 79 = .ok (.getfield 51, 3) := by decide +kernel
theorem dc_E_foresee_82 : decode bc_E_foresee 82 = .ok (.ladd, 1) := by decide +kernel
theorem dc_E_foresee_83 : decode bc_E_foresee 83 = .ok (.lconst 0, 1) := by decide +kernel
theorem dc_E_foresee_84 : decode bc_E_foresee 84 = .ok (.lcmp, 1) := by decide +kernel
theorem dc_E_foresee_85 : decode bc_E_foresee 85 = .ok (.ifCond .gt 6, 3) := by decide +kernel
theorem dc_E_foresee_88 : decode bc_E_foresee 88 = .ok (.goto 73, 3) := by decide +kernel
theorem dc_E_foresee_91 : decode bc_E_foresee 91 = .ok (.lload_n 2, 1) := by decide +kernel
theorem dc_E_foresee_92 : decode bc_E_foresee 92 = .ok (.aload_n 0, 1) := by decide +kernel
theorem dc_E_foresee_93 : decode bc_E_foresee 93 = .ok (.getfield 41, 3) := by decide +kernel
theorem dc_E_foresee_96 : decode bc_E_foresee 96 = .ok (.ladd, 1) := by decide +kernel
theorem dc_E_foresee_97 : decode bc_E_foresee 97 = .ok (.lload 4, 2) := by decide +kernel
theorem dc_E_foresee_99 : decode bc_E_foresee 99 = .ok (.aload_n 0, 1) := by decide +kernel
theorem dc_E_foresee_100 : decode bc_E_foresee 100 = .ok (.getfield 48, 3) := by decide +kernel
theorem dc_E_foresee_103 : decode bc_E_foresee 103 = .ok (.ladd, 1) := by decide +kernel
theorem dc_E_foresee_104 : decode bc_E_foresee 104 = .ok (.ldiv, 1) := by decide +kernel
theorem dc_E_foresee_105 : decode bc_E_foresee 105 = .ok (.lstore 7, 2) := by decide +kernel
theorem dc_E_foresee_107 : decode bc_E_foresee 107 = .ok (.lload 7, 2) := by decide +kernel
theorem dc_E_foresee_109 : decode bc_E_foresee 109 = .ok (.lload_n 2, 1) := by decide +kernel
theorem dc_E_foresee_110 : decode bc_E_foresee 110 = .ok (.aload_n 0, 1) := by decide +kernel
theorem dc_E_foresee_111 : decode bc_E_foresee 111 = .ok (.getfield 45, 3) := by decide +kernel
theorem dc_E_foresee_114 : decode bc_E_foresee 114 = .ok (.ladd, 1) := by decide +kernel
theorem dc_E_foresee_115 : decode bc_E_foresee 115 = .ok (.lload 4, 2) := by decide +kernel
theorem dc_E_foresee_117 : decode bc_E_foresee 117 = .ok (.aload_n 0, 1) := by decide +kernel
theorem dc_E_foresee_118 : decode bc_E_foresee 118 = .ok (.getfield 51, 3) := by decide +kernel
theorem dc_E_foresee_121 : decode bc_E_foresee 121 = .ok (.ladd, 1) := by decide +kernel
theorem dc_E_foresee_122 : decode bc_E_foresee 122 = .ok (.ldiv, 1) := by decide +kernel
theorem dc_E_foresee_123 : decode bc_E_foresee 123 = .ok (.lcmp, 1) := by decide +kernel
theorem dc_E_foresee_124 : decode bc_E_foresee 124 = .ok (.ifCond .ne 37, 3) := by decide +kernel
theorem dc_E_foresee_127 : decode bc_E_foresee 127 = .ok (.aload_n 0, 1) := by decide +kernel
theorem dc_E_foresee_128 : decode bc_E_foresee 128 = .ok (.lload 7, 2) := by decide +kernel
theorem dc_E_foresee_130 : decode bc_E_foresee 130 = .ok (.invokevirtual 102, 3) := by decide +kernel
theorem dc_E_foresee_133 : decode bc_E_foresee 133 = .ok (.ifCond .ne 6, 3) := by decide +kernel
theorem dc_E_foresee_136 : decode bc_E_foresee 136 = .ok (.goto 25, 3) := by decide +kernel
theorem dc_E_foresee_139 : decode bc_E_foresee 139 = .ok (.lload_n 2, 1) := by decide +kernel
theorem dc_E_foresee_140 : decode bc_E_foresee 140 = .ok (.lload 7, 2) := by decide +kernel
theorem dc_E_foresee_142 : decode bc_E_foresee 142 = .ok (.lload 4, 2) := by decide +kernel
theorem dc_E_foresee_144 : decode bc_E_foresee 144 = .ok (.lmul, 1) := by decide +kernel
theorem dc_E_foresee_145 : decode bc_E_foresee 145 = .ok (.lsub, 1) := by decide +kernel
theorem dc_E_foresee_146 : decode bc_E_foresee 146 = .ok (.lstore 9, 2) := by decide +kernel
theorem dc_E_foresee_148 : decode bc_E_foresee 148 = .ok (.lload 4, 2) := by decide +kernel
theorem dc_E_foresee_150 : decode bc_E_foresee 150 = .ok (.lstore_n 2, 1) := by decide +kernel
theorem dc_E_foresee_151 : decode bc_E_foresee 151 = .ok (.lload 9, 2) := by decide +kernel
theorem dc_E_foresee_153 : decode bc_E_foresee 153 = .ok (.lstore 4, 2) := by decide +kernel
theorem dc_E_foresee_155 : decode bc_E_foresee 155 = .ok (.iinc 6 1, 3) := by decide +kernel
theorem dc_E_foresee_158 : decode bc_E_foresee 158 = .ok (.goto (-101), 3) := by decide +kernel
theorem dc_E_foresee_161 : decode bc_E_foresee 161 = .ok (.aload_n 0, 1) := by decide +kernel
theorem dc_E_foresee_162 : decode bc_E_foresee 162 = .ok (.getfield 45, 3) := by decide +kernel
theorem dc_E_foresee_165 : decode bc_E_foresee 165 = .ok (.lconst 0, 1) := by decide +kernel
theorem dc_E_foresee_166 : decode bc_E_foresee 166 = .ok (.lcmp, 1) := by decide +kernel
theorem dc_E_foresee_167 : decode bc_E_foresee 167 = .ok (.ifCond .eq 7, 3) := by decide +kernel
theorem dc_E_foresee_170 : decode bc_E_foresee 170 = .ok (.iconst 1, 1) := by decide +kernel
theorem dc_E_foresee_171 : decode bc_E_foresee 171 = .ok (.goto 4, 3) := by decide +kernel
theorem dc_E_foresee_174 : decode bc_E_foresee 174 = .ok (.iconst 0, 1) := by decide +kernel
theorem dc_E_foresee_175 : decode bc_E_foresee 175 = .ok (.ireturn, 1) := by decide +kernel
theorem dc_E_turn_0 : decode bc_E_turn 0 = .ok (.lload_n 1, 1) := by decide +kernel
theorem dc_E_turn_1 : decode bc_E_turn 1 = .ok (.ldc2_w 106, 3) := by decide +kernel
theorem dc_E_turn_4 : decode bc_E_turn 4 = .ok (.lcmp, 1) := by decide +kernel
theorem dc_E_turn_5 : decode bc_E_turn 5 = .ok (.ifCond .le 5, 3) := by decide +kernel
theorem dc_E_turn_8 : decode bc_E_turn 8 = .ok (.iconst 0, 1) := by decide +kernel
theorem dc_E_turn_9 : decode bc_E_turn 9 = .ok (.ireturn, 1) := by decide +kernel
theorem dc_E_turn_10 : decode bc_E_turn 10 = .ok (.aload_n 0, 1) := by decide +kernel
theorem dc_E_turn_11 : decode bc_E_turn 11 = .ok (.getfield 41, 3) := by decide +kernel
theorem dc_E_turn_14 : decode bc_E_turn 14 = .ok (.lload_n 1, 1) := by decide +kernel
theorem dc_E_turn_15 : decode bc_E_turn 15 = .ok (.aload_n 0, 1) := by decide +kernel
theorem dc_E_turn_16 : decode bc_E_turn 16 = .ok (.getfield 48, 3) := by decide +kernel
theorem dc_E_turn_19 : decode bc_E_turn 19 = .ok (.lmul, 1) := by decide +kernel
theorem dc_E_turn_20 : decode bc_E_turn 20 = .ok (.lsub, 1) := by decide +kernel
theorem dc_E_turn_21 : decode bc_E_turn 21 = .ok (.lstore_n 3, 1) := by decide +kernel
theorem dc_E_turn_22 : decode bc_E_turn 22 = .ok (.aload_n 0, 1) := by decide +kernel
theorem dc_E_turn_23 : decode bc_E_turn 23 = .ok (.getfield 45, 3) := by decide +kernel
theorem dc_E_turn_26 : decode bc_E_turn 26 = .ok (.lload_n 1, 1) := by decide +kernel
theorem dc_E_turn_27 : decode bc_E_turn 27 = .ok (.aload_n 0, 1) := by decide +kernel
theorem dc_E_turn_28 : decode bc_E_turn 28 = .ok (.getfield 51, 3) := by decide +kernel
theorem dc_E_turn_31 : decode bc_E_turn 31 = .ok (.lmul, 1) := by decide +kernel
theorem dc_E_turn_32 : decode bc_E_turn 32 = .ok (.lsub, 1) := by decide +kernel
theorem dc_E_turn_33 : decode bc_E_turn 33 = .ok (.lstore 5, 2) := by decide +kernel
theorem dc_E_turn_35 : decode bc_E_turn 35 = .ok (.lload_n 3, 1) := by decide +kernel
theorem dc_E_turn_36 : decode bc_E_turn 36 = .ok (.invokestatic 108, 3) := by decide +kernel
theorem dc_E_turn_39 : decode bc_E_turn 39 = .ok (.lload 5, 2) := by decide +kernel
theorem dc_E_turn_41 : decode bc_E_turn 41 = .ok (.invokestatic 108, 3) := by decide +kernel
theorem dc_E_turn_44 : decode bc_E_turn 44 = .ok (.invokestatic 112, 3) := by decide +kernel
theorem dc_E_turn_47 : decode bc_E_turn 47 = .ok (.ldc2_w 106, 3) := by decide +kernel
theorem dc_E_turn_50 : decode bc_E_turn 50 = .ok (.lcmp, 1) := by decide +kernel
theorem dc_E_turn_51 : decode bc_E_turn 51 = .ok (.ifCond .le 5, 3) := by decide +kernel
theorem dc_E_turn_54 : decode bc_E_turn 54 = .ok (.iconst 0, 1) := by decide +kernel
theorem dc_E_turn_55 : decode bc_E_turn 55 = .ok (.ireturn, 1) := by decide +kernel
theorem dc_E_turn_56 : decode bc_E_turn 56 = .ok (.aload_n 0, 1) := by decide +kernel
theorem dc_E_turn_57 : decode bc_E_turn 57 = .ok (.aload_n 0, 1) := by decide +kernel
theorem dc_E_turn_58 : decode bc_E_turn 58 = .ok (.getfield 48, 3) := by decide +kernel
theorem dc_E_turn_61 : decode bc_E_turn 61 = .ok (.putfield 41, 3) := by decide +kernel
theorem dc_E_turn_64 : decode bc_E_turn 64 = .ok (.aload_n 0, 1) := by decide +kernel
theorem dc_E_turn_65 : decode bc_E_turn 65 = .ok (.aload_n 0, 1) := by decide +kernel
theorem dc_E_turn_66 : decode bc_E_turn 66 = .ok (.getfield 51, 3) := by decide +kernel
theorem dc_E_turn_69 : decode bc_E_turn 69 = .ok (.putfield 45, 3) := by decide +kernel
theorem dc_E_turn_72 : decode bc_E_turn 72 = .ok (.aload_n 0, 1) := by decide +kernel
theorem dc_E_turn_73 : decode bc_E_turn 73 = .ok (.lload_n 3, 1) := by decide +kernel
theorem dc_E_turn_74 : decode bc_E_turn 74 = .ok (.putfield 48, 3) := by decide +kernel
theorem dc_E_turn_77 : decode bc_E_turn 77 = .ok (.aload_n 0, 1) := by decide +kernel
theorem dc_E_turn_78 : decode bc_E_turn 78 = .ok (.lload 5, 2) := by decide +kernel
theorem dc_E_turn_80 : decode bc_E_turn 80 = .ok (.putfield 51, 3) := by decide +kernel
theorem dc_E_turn_83 : decode bc_E_turn 83 = .ok (.iconst 1, 1) := by decide +kernel
theorem dc_E_turn_84 : decode bc_E_turn 84 = .ok (.ireturn, 1) := by decide +kernel
theorem dc_E_leap_0 : decode bc_E_leap 0 = .ok (.aload_n 0, 1) := by decide +kernel
theorem dc_E_leap_1 : decode bc_E_leap 1 = .ok (.invokevirtual 115, 3) := by decide +kernel
theorem dc_E_leap_4 : decode bc_E_leap 4 = .ok (.iload_n 1, 1) := by decide +kernel
theorem dc_E_leap_5 : decode bc_E_leap 5 = .ok (.ifCond .eq 7, 3) := by decide +kernel
theorem dc_E_leap_8 : decode bc_E_leap 8 = .ok (.aload_n 0, 1) := by decide +kernel
theorem dc_E_leap_9 : decode bc_E_leap 9 = .ok (.invokevirtual 118, 3) := by decide +kernel
theorem dc_E_leap_12 : decode bc_E_leap 12 = .ok (.aload_n 0, 1) := by decide +kernel
theorem dc_E_leap_13 : decode bc_E_leap 13 = .ok (.getfield 51, 3) := by decide +kernel
theorem dc_E_leap_16 : decode bc_E_leap 16 = .ok (.lconst 0, 1) := by decide +kernel
theorem dc_E_leap_17 : decode bc_E_leap 17 = .ok (.lcmp, 1) := by decide +kernel
theorem dc_E_leap_18 : decode bc_E_leap 18 = .ok (.ifCond .ge 19, 3) := by decide +kernel
theorem dc_E_leap_21 : decode bc_E_leap 21 = .ok (.aload_n 0, 1) := by decide +kernel
theorem dc_E_leap_22 : decode bc_E_leap 22 = .ok (.aload_n 0, 1) := by decide +kernel
theorem dc_E_leap_23 : decode bc_E_leap 23 = .ok (.getfield 21, 3) := by decide +kernel
theorem dc_E_leap_26 : decode bc_E_leap 26 = .ok (.ifCond .ne 7, 3) := by decide +kernel
theorem dc_E_leap_29 : decode bc_E_leap 29 = .ok (.iconst 1, 1) := by decide +kernel
theorem dc_E_leap_30 : decode bc_E_leap 30 = .ok (.goto 4, 3) := by decide +kernel
theorem dc_E_leap_33 : decode bc_E_leap 33 = .ok (.iconst 0, 1) := by decide +kernel
theorem dc_E_leap_34 : decode bc_E_leap 34 = .ok (.putfield 21, 3) := by decide +kernel
theorem dc_E_leap_37 : decode bc_E_leap 37 = .ok (.return_, 1) := by decide +kernel
theorem dc_E_leapRemainders_0 : decode bc_E_leapRemainders 0 = .ok (.aload_n 0, 1) := by decide +kernel
theorem dc_E_leapRemainders_1 : decode bc_E_leapRemainders 1 = .ok (.getfield 12, 3) := by decide +kernel
theorem dc_E_leapRemainders_4 : decode bc_E_leapRemainders 4 = .ok (.getfield 121, 3) := by decide +kernel
theorem dc_E_leapRemainders_7 : decode bc_E_leapRemainders 7 = .ok (.istore_n 1, 1) := by decide +kernel
theorem dc_E_leapRemainders_8 : decode bc_E_leapRemainders 8 = .ok (.aload_n 0, 1) := by decide +kernel
theorem dc_E_leapRemainders_9 : decode bc_E_leapRemainders 9 = .ok (.getfield 25, 3) := by decide +kernel
theorem dc_E_leapRemainders_12 : decode bc_E_leapRemainders 12 = .ok (.iload_n 1, 1) := by decide +kernel
theorem dc_E_leapRemainders_13 : decode bc_E_leapRemainders 13 = .ok (.invokevirtual 125, 3) := by decide +kernel
theorem dc_E_leapRemainders_16 : decode bc_E_leapRemainders 16 = .ok (.aload_n 0, 1) := by decide +kernel
theorem dc_E_leapRemainders_17 : decode bc_E_leapRemainders 17 = .ok (.getfield 12, 3) := by decide +kernel
theorem dc_E_leapRemainders_20 : decode bc_E_leapRemainders 20 = .ok (.getfield 129, 3) := by decide +kernel
theorem dc_E_leapRemainders_23 : decode bc_E_leapRemainders 23 = .ok (.aload_n 0, 1) := by decide +kernel
theorem dc_E_leapRemainders_24 : decode bc_E_leapRemainders 24 = .ok (.getfield 25, 3) := by decide +kernel
theorem dc_E_leapRemainders_27 : decode bc_E_leapRemainders 27 = .ok (.getfield 129, 3) := by decide +kernel
theorem dc_E_leapRemainders_30 : decode bc_E_leapRemainders 30 = .ok (.iload_n 1, 1) := by decide +kernel
theorem dc_E_leapRemainders_31 : decode bc_E_leapRemainders 31 = .ok (.aload_n 0, 1) := by decide +kernel
theorem dc_E_leapRemainders_32 : decode bc_E_leapRemainders 32 = .ok (.getfield 41, 3) := by decide +kernel
theorem dc_E_leapRemainders_35 : decode bc_E_leapRemainders 35 = .ok (.aload_n 0, 1) := by decide +kernel
theorem dc_E_leapRemainders_36 : decode bc_E_leapRemainders 36 = .ok (.getfield 45, 3) := by decide +kernel
theorem dc_E_leapRemainders_39 : decode bc_E_leapRemainders 39 = .ok (.aload_n 0, 1) := by decide +kernel
theorem dc_E_leapRemainders_40 : decode bc_E_leapRemainders 40 = .ok (.getfield 48, 3) := by decide +kernel
theorem dc_E_leapRemainders_43 : decode bc_E_leapRemainders 43 = .ok (.aload_n 0, 1) := by decide +kernel
theorem dc_E_leapRemainders_44 : decode bc_E_leapRemainders 44 = .ok (.getfield 51, 3) := by decide +kernel
theorem dc_E_leapRemainders_47 : decode bc_E_leapRemainders 47 = .ok (.invokestatic 133, 3) := by decide +kernel
theorem dc_E_leapRemainders_50 : decode bc_E_leapRemainders 50 = .ok (.aload_n 0, 1) := by decide +kernel
theorem dc_E_leapRemainders_51 : decode bc_E_leapRemainders 51 = .ok (.getfield 12, 3) := by decide +kernel
theorem dc_E_leapRemainders_54 : decode bc_E_leapRemainders 54 = .ok (.iload_n 1, 1) := by decide +kernel
theorem dc_E_leapRemainders_55 : decode bc_E_leapRemainders 55 = .ok (.invokevirtual 137, 3) := by decide +kernel
theorem dc_E_leapRemainders_58 : decode bc_E_leapRemainders 58 = .ok (.aload_n 0, 1) := by decide +kernel
theorem dc_E_leapRemainders_59 : decode bc_E_leapRemainders 59 = .ok (.getfield 25, 3) := by decide +kernel
theorem dc_E_leapRemainders_62 : decode bc_E_leapRemainders 62 = .ok (.iload_n 1, 1) := by decide +kernel
theorem dc_E_leapRemainders_63 : decode bc_E_leapRemainders 63 = .ok (.invokevirtual 137, 3) := by decide +kernel
theorem dc_E_leapRemainders_66 : decode bc_E_leapRemainders 66 = .ok (.return_, 1) := by decide +kernel
theorem dc_E_multiply_0 : decode bc_E_multiply 0 = .ok (.lconst 0, 1) := by decide +kernel
theorem dc_E_multiply_1 : decode bc_E_multiply 1 = .ok (.lstore 11, 2) := by decide +kernel
theorem dc_E_multiply_3 : decode bc_E_multiply 3 = .ok (.lconst 0, 1) := by decide +kernel
theorem dc_E_multiply_4 : decode bc_E_multiply 4 = .ok (.lstore 13, 2) := by decide +kernel
theorem dc_E_multiply_6 : decode bc_E_multiply 6 = .ok (.iconst 0, 1) := by decide +kernel
theorem dc_E_multiply_7 : decode bc_E_multiply 7 = .ok (.istore 15, 2) := by decide +kernel
theorem dc_E_multiply_9 : decode bc_E_multiply 9 = .ok (.iload 15, 2) := by decide +kernel
theorem dc_E_multiply_11 : decode bc_E_multiply 11 = .ok (.iload_n 2, 1) := by decide +kernel
theorem dc_E_multiply_12 : decode bc_E_multiply 12 = .ok (.if_icmp .ge 82, 3) := by decide +kernel
theorem dc_E_multiply_15 : decode bc_E_multiply 15 = .ok (.lload_n 3, 1) := by decide +kernel
theorem dc_E_multiply_16 : decode bc_E_multiply 16 = .ok (.aload_n 0, 1) := by decide +kernel
theorem dc_E_multiply_17 : decode bc_E_multiply 17 = .ok (.iload 15, 2) := by decide +kernel
theorem dc_E_multiply_19 : decode bc_E_multiply 19 = .ok (.laload, 1) := by decide +kernel
theorem dc_E_multiply_20 : decode bc_E_multiply 20 = .ok (.lmul, 1) := by decide +kernel
theorem dc_E_multiply_21 : decode bc_E_multiply 21 = .ok (.lload 5, 2) := by decide +kernel
theorem dc_E_multiply_23 : decode bc_E_multiply 23 = .ok (.aload_n 1, 1) := by decide +kernel
theorem dc_E_multiply_24 : decode bc_E_multiply 24 = .ok (.iload 15, 2) := by decide +kernel
theorem dc_E_multiply_26 : decode bc_E_multiply 26 = .ok (.laload, 1) := by decide +kernel
theorem dc_E_multiply_27 : decode bc_E_multiply 27 = .ok (.lmul, 1) := by decide +kernel
theorem dc_E_multiply_28 : decode bc_E_multiply 28 = .ok (.ladd, 1) := by decide +kernel
theorem dc_E_multiply_29 : decode bc_E_multiply 29 = .ok (.lload 11, 2) := by decide +kernel
theorem dc_E_multiply_31 : decode bc_E_multiply 31 = .ok (.ladd, 1) := by decide +kernel
theorem dc_E_multiply_32 : decode bc_E_multiply 32 = .ok (.lstore 16, 2) := by decide +kernel
theorem dc_E_multiply_34 : decode bc_E_multiply 34 = .ok (.lload 7, 2) := by decide +kernel
theorem dc_E_multiply_36 : decode bc_E_multiply 36 = .ok (.aload_n 0, 1) := by decide +kernel
theorem dc_E_multiply_37 : decode bc_E_multiply 37 = .ok (.iload 15, 2) := by decide +kernel
theorem dc_E_multiply_39 : decode bc_E_multiply 39 = .ok (.laload, 1) := by decide +kernel
theorem dc_E_multiply_40 : decode bc_E_multiply 40 = .ok (.lmul, 1) := by decide +kernel
theorem dc_E_multiply_41 : decode bc_E_multiply 41 = .ok (.lload 9, 2) := by decide +kernel
theorem dc_E_multiply_43 : decode bc_E_multiply 43 = .ok (.aload_n 1, 1) := by decide +kernel
theorem dc_E_multiply_44 : decode bc_E_multiply 44 = .ok (.iload 15, 2) := by decide +kernel
theorem dc_E_multiply_46 : decode bc_E_multiply 46 = .ok (.laload, 1) := by decide +kernel
theorem dc_E_multiply_47 : decode bc_E_multiply 47 = .ok (.lmul, 1) := by decide +kernel
theorem dc_E_multiply_48 : decode bc_E_multiply 48 = .ok (.ladd, 1) := by decide +kernel
theorem dc_E_multiply_49 : decode bc_E_multiply 49 = .ok (.lload 13, 2) := by decide +kernel
theorem dc_E_multiply_51 : decode bc_E_multiply 51 = .ok (.ladd, 1) := by decide +kernel
theorem dc_E_multiply_52 : decode bc_E_multiply 52 = .ok (.lstore 18, 2) := by decide +kernel
theorem dc_E_multiply_54 : decode bc_E_multiply 54 = .ok (.aload_n 0, 1) := by decide +kernel
theorem dc_E_multiply_55 : decode bc_E_multiply 55 = .ok (.iload 15, 2) := by decide +kernel
theorem dc_E_multiply_57 : decode bc_E_multiply 57 = .ok (.lload 16, 2) := by decide +kernel
theorem dc_E_multiply_59 : decode bc_E_multiply 59 = .ok (.ldc2_w 140, 3) := by decide +kernel
theorem dc_E_multiply_62 : decode bc_E_multiply 62 = .ok (.land, 1) := by decide +kernel
theorem dc_E_multiply_63 : decode bc_E_multiply 63 = .ok (.lastore, 1) := by decide +kernel
theorem dc_E_multiply_64 : decode bc_E_multiply 64 = .ok (.aload_n 1, 1) := by decide +kernel
theorem dc_E_multiply_65 : decode bc_E_multiply 65 = .ok (.iload 15, 2) := by decide +kernel
theorem dc_E_multiply_67 : decode bc_E_multiply 67 = .ok (.lload 18, 2) := by decide +kernel
theorem dc_E_multiply_69 : decode bc_E_multiply 69 = .ok (.ldc2_w 140, 3) := by decide +kernel
theorem dc_E_multiply_72 : decode bc_E_multiply 72 = .ok (.land, 1) := by decide +kernel
theorem dc_E_multiply_73 : decode bc_E_multiply 73 = .ok (.lastore, 1) := by decide +kernel
theorem dc_E_multiply_74 : decode bc_E_multiply 74 = .ok (.lload 16, 2) := by decide +kernel
theorem dc_E_multiply_76 : decode bc_E_multiply 76 = .ok (.bipush 32, 2) := by decide +kernel
theorem dc_E_multiply_78 : decode bc_E_multiply 78 = .ok (.lshr, 1) := by decide +kernel
theorem dc_E_multiply_79 : decode bc_E_multiply 79 = .ok (.lstore 11, 2) := by decide +kernel
theorem dc_E_multiply_81 : decode bc_E_multiply 81 = .ok (.lload 18, 2) := by decide +kernel
theorem dc_E_multiply_83 : decode bc_E_multiply 83 = .ok (.bipush 32, 2) := by decide +kernel
theorem dc_E_multiply_85 : decode bc_E_multiply 85 = .ok (.lshr, 1) := by decide +kernel
theorem dc_E_multiply_86 : decode bc_E_multiply 86 = .ok (.lstore 13, 2) := by decide +kernel
theorem dc_E_multiply_88 : decode bc_E_multiply 88 = .ok (.iinc 15 1, 3) := by decide +kernel
theorem dc_E_multiply_91 : decode bc_E_multiply 91 = .ok (.goto (-82), 3) := by decide +kernel
theorem dc_E_multiply_94 : decode bc_E_multiply 94 = .ok (.return_, 1) := by decide +kernel
theorem dc_E_leapFactors_0 : decode bc_E_leapFactors 0 = .ok (.aload_n 0, 1) := by decide +kernel
theorem dc_E_leapFactors_1 : decode bc_E_leapFactors 1 = .ok (.getfield 18, 3) := by decide +kernel
theorem dc_E_leapFactors_4 : decode bc_E_leapFactors 4 = .ok (.getfield 121, 3) := by decide +kernel
theorem dc_E_leapFactors_7 : decode bc_E_leapFactors 7 = .ok (.aload_n 0, 1) := by decide +kernel
theorem dc_E_leapFactors_8 : decode bc_E_leapFactors 8 = .ok (.getfield 28, 3) := by decide +kernel
theorem dc_E_leapFactors_11 : decode bc_E_leapFactors 11 = .ok (.getfield 121, 3) := by decide +kernel
theorem dc_E_leapFactors_14 : decode bc_E_leapFactors 14 = .ok (.invokestatic 92, 3) := by decide +kernel
theorem dc_E_leapFactors_17 : decode bc_E_leapFactors 17 = .ok (.iconst 1, 1) := by decide +kernel
theorem dc_E_leapFactors_18 : decode bc_E_leapFactors 18 = .ok (.iadd, 1) := by decide +kernel
theorem dc_E_leapFactors_19 : decode bc_E_leapFactors 19 = .ok (.istore_n 1, 1) := by decide +kernel
theorem dc_E_leapFactors_20 : decode bc_E_leapFactors 20 = .ok (.aload_n 0, 1) := by decide +kernel
theorem dc_E_leapFactors_21 : decode bc_E_leapFactors 21 = .ok (.getfield 18, 3) := by decide +kernel
theorem dc_E_leapFactors_24 : decode bc_E_leapFactors 24 = .ok (.iload_n 1, 1) := by decide +kernel
theorem dc_E_leapFactors_25 : decode bc_E_leapFactors 25 = .ok (.invokevirtual 125, 3) := by decide +kernel
theorem dc_E_leapFactors_28 : decode bc_E_leapFactors 28 = .ok (.aload_n 0, 1) := by decide +kernel
theorem dc_E_leapFactors_29 : decode bc_E_leapFactors 29 = .ok (.getfield 28, 3) := by decide +kernel
theorem dc_E_leapFactors_32 : decode bc_E_leapFactors 32 = .ok (.iload_n 1, 1) := by decide +kernel
theorem dc_E_leapFactors_33 : decode bc_E_leapFactors 33 = .ok (.invokevirtual 125, 3) := by decide +kernel
theorem dc_E_leapFactors_36 : decode bc_E_leapFactors 36 = .ok (.aload_n 0, 1) := by decide +kernel
theorem dc_E_leapFactors_37 : decode bc_E_leapFactors 37 = .ok (.getfield 18, 3) := by decide +kernel
theorem dc_E_leapFactors_40 : decode bc_E_leapFactors 40 = .ok (.getfield 129, 3) := by decide +kernel
theorem dc_E_leapFactors_43 : decode bc_E_leapFactors 43 = .ok (.aload_n 0, 1) := by decide +kernel
theorem dc_E_leapFactors_44 : decode bc_E_leapFactors 44 = .ok (.getfield 28, 3) := by decide +kernel
theorem dc_E_leapFactors_47 : decode bc_E_leapFactors 47 = .ok (.getfield 129, 3) := by decide +kernel
theorem dc_E_leapFactors_50 : decode bc_E_leapFactors 50 = .ok (.iload_n 1, 1) := by decide +kernel
theorem dc_E_leapFactors_51 : decode bc_E_leapFactors 51 = .ok (.aload_n 0, 1) := by decide +kernel
theorem dc_E_leapFactors_52 : decode bc_E_leapFactors 52 = .ok (.getfield 41, 3) := by decide +kernel
theorem dc_E_leapFactors_55 : decode bc_E_leapFactors 55 = .ok (.invokestatic 108, 3) := by decide +kernel
theorem dc_E_leapFactors_58 : decode bc_E_leapFactors 58 = .ok (.aload_n 0, 1) := by decide +kernel
theorem dc_E_leapFactors_59 : decode bc_E_leapFactors 59 = .ok (.getfield 45, 3) := by decide +kernel
theorem dc_E_leapFactors_62 : decode bc_E_leapFactors 62 = .ok (.invokestatic 108, 3) := by decide +kernel
theorem dc_E_leapFactors_65 : decode bc_E_leapFactors 65 = .ok (.aload_n 0, 1) := by decide +kernel
theorem dc_E_leapFactors_66 : decode bc_E_leapFactors 66 = .ok (.getfield 48, 3) := by decide +kernel
theorem dc_E_leapFactors_69 : decode bc_E_leapFactors 69 = .ok (.invokestatic 108, 3) := by decide +kernel
theorem dc_E_leapFactors_72 : decode bc_E_leapFactors 72 = .ok (.aload_n 0, 1) := by decide +kernel
theorem dc_E_leapFactors_73 : decode bc_E_leapFactors 73 = .ok (.getfield 51, 3) := by decide +kernel
theorem dc_E_leapFactors_76 : decode bc_E_leapFactors 76 = .ok (.invokestatic 108, 3) := by decide +kernel
theorem dc_E_leapFactors_79 : decode bc_E_leapFactors 79 = .ok (.invokestatic 133, 3) := by decide +kernel
theorem dc_E_leapFactors_82 : decode bc_E_leapFactors 82 = .ok (.aload_n 0, 1) := by decide +kernel
theorem dc_E_leapFactors_83 : decode bc_E_leapFactors 83 = .ok (.getfield 18, 3) := by decide +kernel
theorem dc_E_leapFactors_86 : decode bc_E_leapFactors 86 = .ok (.iload_n 1, 1) := by decide +kernel
theorem dc_E_leapFactors_87 : decode bc_E_leapFactors 87 = .ok (.invokevirtual 137, 3) := by decide +kernel
theorem dc_E_leapFactors_90 : decode bc_E_leapFactors 90 = .ok (.aload_n 0, 1) := by decide +kernel
theorem dc_E_leapFactors_91 : decode bc_E_leapFactors 91 = .ok (.getfield 28, 3) := by decide +kernel
theorem dc_E_leapFactors_94 : decode bc_E_leapFactors 94 = .ok (.iload_n 1, 1) := by decide +kernel
theorem dc_E_leapFactors_95 : decode bc_E_leapFactors 95 = .ok (.invokevirtual 137, 3) := by decide +kernel
theorem dc_E_leapFactors_98 : decode bc_E_leapFactors 98 = .ok (.return_, 1) := by decide +kernel
theorem dc_E_step_0 : decode bc_E_step 0 = .ok (.aload_n 0, 1) := by decide +kernel
theorem dc_E_step_1 : decode bc_E_step 1 = .ok (.getfield 12, 3) := by decide +kernel
theorem dc_E_step_4 : decode bc_E_step 4 = .ok (.aload_n 0, 1) := by decide +kernel
theorem dc_E_step_5 : decode bc_E_step 5 = .ok (.getfield 25, 3) := by decide +kernel
theorem dc_E_step_8 : decode bc_E_step 8 = .ok (.invokevirtual 58, 3) := by decide +kernel
theorem dc_E_step_11 : decode bc_E_step 11 = .ok (.aload_n 0, 1) := by decide +kernel
theorem dc_E_step_12 : decode bc_E_step 12 = .ok (.getfield 25, 3) := by decide +kernel
theorem dc_E_step_15 : decode bc_E_step 15 = .ok (.aload_n 0, 1) := by decide +kernel
theorem dc_E_step_16 : decode bc_E_step 16 = .ok (.getfield 37, 3) := by decide +kernel
theorem dc_E_step_19 : decode bc_E_step 19 = .ok (.getfield 142, 3) := by decide +kernel
theorem dc_E_step_22 : decode bc_E_step 22 = .ok (.invokevirtual 58, 3) := by decide +kernel
theorem dc_E_step_25 : decode bc_E_step 25 = .ok (.iload_n 1, 1) := by decide +kernel
theorem dc_E_step_26 : decode bc_E_step 26 = .ok (.ifCond .eq 58, 3) := by decide +kernel
theorem dc_E_step_29 : decode bc_E_step 29 = .ok (.aload_n 0, 1) := by decide +kernel
theorem dc_E_step_30 : decode bc_E_step 30 = .ok (.getfield 31, 3) := by decide +kernel
theorem dc_E_step_33 : decode bc_E_step 33 = .ok (.aload_n 0, 1) := by decide +kernel
theorem dc_E_step_34 : decode bc_E_step 34 = .ok (.getfield 37, 3) := by decide +kernel
theorem dc_E_step_37 : decode bc_E_step 37 = .ok (.getfield 145, 3) := by decide +kernel
theorem dc_E_step_40 : decode bc_E_step 40 = .ok (.aload_n 0, 1) := by decide +kernel
theorem dc_E_step_41 : decode bc_E_step 41 = .ok (.getfield 28, 3) := by decide +kernel
theorem dc_E_step_44 : decode bc_E_step 44 = .ok (.invokevirtual 148, 3) := by decide +kernel
theorem dc_E_step_47 : decode bc_E_step 47 = .ok (.aload_n 0, 1) := by decide +kernel
theorem dc_E_step_48 : decode bc_E_step 48 = .ok (.getfield 31, 3) := by decide +kernel
theorem dc_E_step_51 : decode bc_E_step 51 = .ok (.aload_n 0, 1) := by decide +kernel
theorem dc_E_step_52 : decode bc_E_step 52 = .ok (.getfield 31, 3) := by decide +kernel
theorem dc_E_step_55 : decode bc_E_step 55 = .ok (.aload_n 0, 1) := by decide +kernel
theorem dc_E_step_56 : decode bc_E_step 56 = .ok (.getfield 18, 3) := by decide +kernel
theorem dc_E_step_59 : decode bc_E_step 59 = .ok (.invokevirtual 151, 3) := by decide +kernel
theorem dc_E_step_62 : decode bc_E_step 62 = .ok (.aload_n 0, 1) := by decide +kernel
theorem dc_E_step_63 : decode bc_E_step 63 = .ok (.getfield 18, 3) := by decide +kernel
theorem dc_E_step_66 : decode bc_E_step 66 = .ok (.aload_n 0, 1) := by decide +kernel
theorem dc_E_step_67 : decode bc_E_step 67 = .ok (.getfield 28, 3) := by decide +kernel
theorem dc_E_step_70 : decode bc_E_step 70 = .ok (.invokevirtual 58, 3) := by decide +kernel
theorem dc_E_step_73 : decode bc_E_step 73 = .ok (.aload_n 0, 1) := by decide +kernel
theorem dc_E_step_74 : decode bc_E_step 74 = .ok (.getfield 28, 3) := by decide +kernel
theorem dc_E_step_77 : decode bc_E_step 77 = .ok (.aload_n 0, 1) := by decide +kernel
theorem dc_E_step_78 : decode bc_E_step 78 = .ok (.getfield 31, 3) := by decide +kernel
theorem dc_E_step_81 : decode bc_E_step 81 = .ok (.invokevirtual 58, 3) := by decide +kernel
theorem dc_E_step_84 : decode bc_E_step 84 = .ok (.aload_n 0, 1) := by decide +kernel
theorem dc_E_step_85 : decode bc_E_step 85 = .ok (.aload_n 0, 1) := by decide +kernel
theorem dc_E_step_86 : decode bc_E_step 86 = .ok (.getfield 21, 3) := by decide +kernel
theorem dc_E_step_89 : decode bc_E_step 89 = .ok (.ifCond .ne 7, 3) := by decide +kernel
theorem dc_E_step_92 : decode bc_E_step 92 = .ok (.iconst 1, 1) := by decide +kernel
theorem dc_E_step_93 : decode bc_E_step 93 = .ok (.goto 4, 3) := by decide +kernel
theorem dc_E_step_96 : decode bc_E_step 96 = .ok (.iconst 0, 1) := by decide +kernel
theorem dc_E_step_97 : decode bc_E_step 97 = .ok (.putfield 21, 3) := by decide +kernel
theorem dc_E_step_100 : decode bc_E_step 100 = .ok (.return_, 1) := by decide +kernel
