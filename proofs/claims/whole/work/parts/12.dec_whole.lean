theorem dc_W_init_0 : decode bc_W_init 0 = .ok (.aload_n 0, 1) := by decide +kernel
theorem dc_W_init_1 : decode bc_W_init 1 = .ok (.invokespecial 3, 3) := by decide +kernel
theorem dc_W_init_4 : decode bc_W_init 4 = .ok (.aload_n 0, 1) := by decide +kernel
theorem dc_W_init_5 : decode bc_W_init 5 = .ok (.iconst 4, 1) := by decide +kernel
theorem dc_W_init_6 : decode bc_W_init 6 = .ok (.newarray .long, 2) := by decide +kernel
theorem dc_W_init_8 : decode bc_W_init 8 = .ok (.putfield 11, 3) := by decide +kernel
theorem dc_W_init_11 : decode bc_W_init 11 = .ok (.aload_n 0, 1) := by decide +kernel
theorem dc_W_init_12 : decode bc_W_init 12 = .ok (.iconst 0, 1) := by decide +kernel
theorem dc_W_init_13 : decode bc_W_init 13 = .ok (.putfield 15, 3) := by decide +kernel
theorem dc_W_init_16 : decode bc_W_init 16 = .ok (.return_, 1) := by decide +kernel
theorem dc_W_load_0 : decode bc_W_load 0 = .ok (.aload_n 0, 1) := by decide +kernel
theorem dc_W_load_1 : decode bc_W_load 1 = .ok (.getfield 11, 3) := by decide +kernel
theorem dc_W_load_4 : decode bc_W_load 4 = .ok (.iconst 0, 1) := by decide +kernel
theorem dc_W_load_5 : decode bc_W_load 5 = .ok (.lload_n 1, 1) := by decide +kernel
theorem dc_W_load_6 : decode bc_W_load 6 = .ok (.ldc2_w 35, 3) := by decide +kernel
theorem dc_W_load_9 : decode bc_W_load 9 = .ok (.land, 1) := by decide +kernel
theorem dc_W_load_10 : decode bc_W_load 10 = .ok (.lastore, 1) := by decide +kernel
theorem dc_W_load_11 : decode bc_W_load 11 = .ok (.aload_n 0, 1) := by decide +kernel
theorem dc_W_load_12 : decode bc_W_load 12 = .ok (.getfield 11, 3) := by decide +kernel
theorem dc_W_load_15 : decode bc_W_load 15 = .ok (.iconst 1, 1) := by decide +kernel
theorem dc_W_load_16 : decode bc_W_load 16 = .ok (.lload_n 1, 1) := by decide +kernel
theorem dc_W_load_17 : decode bc_W_load 17 = .ok (.bipush 32, 2) := by decide +kernel
theorem dc_W_load_19 : decode bc_W_load 19 = .ok (.lushr, 1) := by decide +kernel
theorem dc_W_load_20 : decode bc_W_load 20 = .ok (.lastore, 1) := by decide +kernel
theorem dc_W_load_21 : decode bc_W_load 21 = .ok (.aload_n 0, 1) := by decide +kernel
theorem dc_W_load_22 : decode bc_W_load 22 = .ok (.iconst 2, 1) := by decide +kernel
theorem dc_W_load_23 : decode bc_W_load 23 = .ok (.invokevirtual 37, 3) := by decide +kernel
theorem dc_W_load_26 : decode bc_W_load 26 = .ok (.return_, 1) := by decide +kernel
theorem dc_W_trim_0 : decode bc_W_trim 0 = .ok (.aload_n 0, 1) := by decide +kernel
theorem dc_W_trim_1 : decode bc_W_trim 1 = .ok (.iload_n 1, 1) := by decide +kernel
theorem dc_W_trim_2 : decode bc_W_trim 2 = .ok (.putfield 15, 3) := by decide +kernel
theorem dc_W_trim_5 : decode bc_W_trim 5 = .ok (.aload_n 0, 1) := by decide +kernel
theorem dc_W_trim_6 : decode bc_W_trim 6 = .ok (.getfield 15, 3) := by decide +kernel
theorem dc_W_trim_9 : decode bc_W_trim 9 = .ok (.ifCond .le 32, 3) := by decide +kernel
theorem dc_W_trim_12 : decode bc_W_trim 12 = .ok (.aload_n 0, 1) := by decide +kernel
theorem dc_W_trim_13 : decode bc_W_trim 13 = .ok (.getfield 11, 3) := by decide +kernel
theorem dc_W_trim_16 : decode bc_W_trim 16 = .ok (.aload_n 0, 1) := by decide +kernel
theorem dc_W_trim_17 : decode bc_W_trim 17 = .ok (.getfield 15, 3) := by decide +kernel
theorem dc_W_trim_20 : decode bc_W_trim 20 = .ok (.iconst 1, 1) := by decide +kernel
theorem dc_W_trim_21 : decode bc_W_trim 21 = .ok (.isub, 1) := by decide +kernel
theorem dc_W_trim_22 : decode bc_W_trim 22 = .ok (.laload, 1) := by decide +kernel
theorem dc_W_trim_23 : decode bc_W_trim 23 = .ok (.lconst 0, 1) := by decide +kernel
theorem dc_W_trim_24 : decode bc_W_trim 24 = .ok (.lcmp, 1) := by decide +kernel
theorem dc_W_trim_25 : decode bc_W_trim 25 = .ok (.ifCond .ne 16, 3) := by decide +kernel
theorem dc_W_trim_28 : decode bc_W_trim 28 = .ok (.aload_n 0, 1) := by decide +kernel
theorem dc_W_trim_29 : decode bc_W_trim 29 = .ok (.dup, 1) := by decide +kernel
theorem dc_W_trim_30 : decode bc_W_trim 30 = .ok (.getfield 15, 3) := by decide +kernel
theorem dc_W_trim_33 : decode bc_W_trim 33 = .ok (.iconst 1, 1) := by decide +kernel
theorem dc_W_trim_34 : decode bc_W_trim 34 = .ok (.isub, 1) := by decide +kernel
theorem dc_W_trim_35 : decode bc_W_trim 35 = .ok (.putfield 15, 3) := by decide +kernel
theorem dc_W_trim_38 : decode bc_W_trim 38 = .ok (.goto (-33), 3) := by decide +kernel
theorem dc_W_trim_41 : decode bc_W_trim 41 = .ok (.return_, 1) := by decide +kernel
theorem dc_W_bits_0 : decode bc_W_bits 0 = .ok (.aload_n 0, 1) := by decide +kernel
theorem dc_W_bits_1 : decode bc_W_bits 1 = .ok (.getfield 15, 3) := by decide +kernel
theorem dc_W_bits_4 : decode bc_W_bits 4 = .ok (.ifCond .ne 5, 3) := by decide +kernel
theorem dc_W_bits_7 : decode bc_W_bits 7 = .ok (.iconst 0, 1) := by decide +kernel
theorem dc_W_bits_8 : decode bc_W_bits 8 = .ok (.ireturn, 1) := by decide +kernel
theorem dc_W_bits_9 : decode bc_W_bits 9 = .ok (.bipush 32, 2) := by decide +kernel
theorem dc_W_bits_11 : decode bc_W_bits 11 = .ok (.aload_n 0, 1) := by decide +kernel
theorem dc_W_bits_12 : decode bc_W_bits 12 = .ok (.getfield 15, 3) := by decide +kernel
theorem dc_W_bits_15 : decode bc_W_bits 15 = .ok (.imul, 1) := by decide +kernel
theorem dc_W_bits_16 : decode bc_W_bits 16 = .ok (.bipush 32, 2) := by decide +kernel
theorem dc_W_bits_18 : decode bc_W_bits 18 = .ok (.iadd, 1) := by decide +kernel
theorem dc_W_bits_19 : decode bc_W_bits 19 = .ok (.aload_n 0, 1) := by decide +kernel
theorem dc_W_bits_20 : decode bc_W_bits 20 = .ok (.getfield 11, 3) := by decide +kernel
theorem dc_W_bits_23 : decode bc_W_bits 23 = .ok (.aload_n 0, 1) := by decide +kernel
theorem dc_W_bits_24 : decode bc_W_bits 24 = .ok (.getfield 15, 3) := by decide +kernel
theorem dc_W_bits_27 : decode bc_W_bits 27 = .ok (.iconst 1, 1) := by decide +kernel
theorem dc_W_bits_28 : decode bc_W_bits 28 = .ok (.isub, 1) := by decide +kernel
theorem dc_W_bits_29 : decode bc_W_bits 29 = .ok (.laload, 1) := by decide +kernel
theorem dc_W_bits_30 : decode bc_W_bits 30 = .ok (.invokestatic 50, 3) := by decide +kernel
theorem dc_W_bits_33 : decode bc_W_bits 33 = .ok (.isub, 1) := by decide +kernel
theorem dc_W_bits_34 : decode bc_W_bits 34 = .ok (.ireturn, 1) := by decide +kernel
theorem dc_W_copy_0 : decode bc_W_copy 0 = .ok (.aload_n 0, 1) := by decide +kernel
theorem dc_W_copy_1 : decode bc_W_copy 1 = .ok (.aload_n 1, 1) := by decide +kernel
theorem dc_W_copy_2 : decode bc_W_copy 2 = .ok (.getfield 15, 3) := by decide +kernel
theorem dc_W_copy_5 : decode bc_W_copy 5 = .ok (.invokevirtual 31, 3) := by decide +kernel
theorem dc_W_copy_8 : decode bc_W_copy 8 = .ok (.aload_n 1, 1) := by decide +kernel
theorem dc_W_copy_9 : decode bc_W_copy 9 = .ok (.getfield 11, 3) := by decide +kernel
theorem dc_W_copy_12 : decode bc_W_copy 12 = .ok (.iconst 0, 1) := by decide +kernel
theorem dc_W_copy_13 : decode bc_W_copy 13 = .ok (.aload_n 0, 1) := by decide +kernel
theorem dc_W_copy_14 : decode bc_W_copy 14 = .ok (.getfield 11, 3) := by decide +kernel
theorem dc_W_copy_17 : decode bc_W_copy 17 = .ok (.iconst 0, 1) := by decide +kernel
theorem dc_W_copy_18 : decode bc_W_copy 18 = .ok (.aload_n 1, 1) := by decide +kernel
theorem dc_W_copy_19 : decode bc_W_copy 19 = .ok (.getfield 15, 3) := by decide +kernel
theorem dc_W_copy_22 : decode bc_W_copy 22 = .ok (.invokestatic 40, 3) := by decide +kernel
theorem dc_W_copy_25 : decode bc_W_copy 25 = .ok (.aload_n 0, 1) := by decide +kernel
theorem dc_W_copy_26 : decode bc_W_copy 26 = .ok (.aload_n 1, 1) := by decide +kernel
theorem dc_W_copy_27 : decode bc_W_copy 27 = .ok (.getfield 15, 3) := by decide +kernel
theorem dc_W_copy_30 : decode bc_W_copy 30 = .ok (.putfield 15, 3) := by decide +kernel
theorem dc_W_copy_33 : decode bc_W_copy 33 = .ok (.return_, 1) := by decide +kernel
theorem dc_W_room_0 : decode bc_W_room 0 = .ok (.iload_n 1, 1) := by decide +kernel
theorem dc_W_room_1 : decode bc_W_room 1 = .ok (.aload_n 0, 1) := by decide +kernel
theorem dc_W_room_2 : decode bc_W_room 2 = .ok (.getfield 11, 3) := by decide +kernel
theorem dc_W_room_5 : decode bc_W_room 5 = .ok (.arraylength, 1) := by decide +kernel
theorem dc_W_room_6 : decode bc_W_room 6 = .ok (.if_icmp .le 25, 3) := by decide +kernel
theorem dc_W_room_9 : decode bc_W_room 9 = .ok (.aload_n 0, 1) := by decide +kernel
theorem dc_W_room_10 : decode bc_W_room 10 = .ok (.aload_n 0, 1) := by decide +kernel
theorem dc_W_room_11 : decode bc_W_room 11 = .ok (.getfield 11, 3) := by decide +kernel
theorem dc_W_room_14 : decode bc_W_room 14 = .ok (.iload_n 1, 1) := by decide +kernel
theorem dc_W_room_15 : decode bc_W_room 15 = .ok (.iconst 2, 1) := by decide +kernel
theorem dc_W_room_16 : decode bc_W_room 16 = .ok (.aload_n 0, 1) := by decide +kernel
theorem dc_W_room_17 : decode bc_W_room 17 = .ok (.getfield 11, 3) := by decide +kernel
theorem dc_W_room_20 : decode bc_W_room 20 = .ok (.arraylength, 1) := by decide +kernel
theorem dc_W_room_21 : decode bc_W_room 21 = .ok (.imul, 1) := by decide +kernel
theorem dc_W_room_22 : decode bc_W_room 22 = .ok (.invokestatic 19, 3) := by decide +kernel
theorem dc_W_room_25 : decode bc_W_room 25 = .ok (.invokestatic 25, 3) := by decide +kernel
theorem dc_W_room_28 : decode bc_W_room 28 = .ok (.putfield 11, 3) := by decide +kernel
theorem dc_W_room_31 : decode bc_W_room 31 = .ok (.return_, 1) := by decide +kernel
theorem dc_W_isZero_0 : decode bc_W_isZero 0 = .ok (.aload_n 0, 1) := by decide +kernel
theorem dc_W_isZero_1 : decode bc_W_isZero 1 = .ok (.getfield 15, 3) := by decide +kernel
theorem dc_W_isZero_4 : decode bc_W_isZero 4 = .ok (.ifCond .ne 7, 3) := by decide +kernel
theorem dc_W_isZero_7 : decode bc_W_isZero 7 = .ok (.iconst 1, 1) := by decide +kernel
theorem dc_W_isZero_8 : decode bc_W_isZero 8 = .ok (.goto 4, 3) := by decide +kernel
theorem dc_W_isZero_11 : decode bc_W_isZero 11 = .ok (.iconst 0, 1) := by decide +kernel
theorem dc_W_isZero_12 : decode bc_W_isZero 12 = .ok (.ireturn, 1) := by decide +kernel
theorem dc_W_raise_0 : decode bc_W_raise 0 = .ok (.iload_n 2, 1) := by decide +kernel
theorem dc_W_raise_1 : decode bc_W_raise 1 = .ok (.bipush 32, 2) := by decide +kernel
theorem dc_W_raise_3 : decode bc_W_raise 3 = .ok (.idiv, 1) := by decide +kernel
theorem dc_W_raise_4 : decode bc_W_raise 4 = .ok (.istore_n 3, 1) := by decide +kernel
theorem dc_W_raise_5 : decode bc_W_raise 5 = .ok (.iload_n 2, 1) := by decide +kernel
theorem dc_W_raise_6 : decode bc_W_raise 6 = .ok (.bipush 31, 2) := by decide +kernel
theorem dc_W_raise_8 : decode bc_W_raise 8 = .ok (.iand, 1) := by decide +kernel
theorem dc_W_raise_9 : decode bc_W_raise 9 = .ok (.istore 4, 2) := by decide +kernel
theorem dc_W_raise_11 : decode bc_W_raise 11 = .ok (.aload_n 1, 1) := by decide +kernel
theorem dc_W_raise_12 : decode bc_W_raise 12 = .ok (.getfield 15, 3) := by decide +kernel
theorem dc_W_raise_15 : decode bc_W_raise 15 = .ok (.istore 5, 2) := by decide +kernel
theorem dc_W_raise_17 : decode bc_W_raise 17 = .ok (.aload_n 0, 1) := by decide +kernel
theorem dc_W_raise_18 : decode bc_W_raise 18 = .ok (.iload 5, 2) := by decide +kernel
theorem dc_W_raise_20 : decode bc_W_raise 20 = .ok (.iload_n 3, 1) := by decide +kernel
theorem dc_W_raise_21 : decode bc_W_raise 21 = .ok (.iadd, 1) := by decide +kernel
theorem dc_W_raise_22 : decode bc_W_raise 22 = .ok (.iconst 1, 1) := by decide +kernel
theorem dc_W_raise_23 : decode bc_W_raise 23 = .ok (.iadd, 1) := by decide +kernel
theorem dc_W_raise_24 : decode bc_W_raise 24 = .ok (.invokevirtual 31, 3) := by decide +kernel
theorem dc_W_raise_27 : decode bc_W_raise 27 = .ok (.iload 5, 2) := by decide +kernel
theorem dc_W_raise_29 : decode bc_W_raise 29 = .ok (.istore 6, 2) := by decide +kernel
theorem dc_W_raise_31 : decode bc_W_raise 31 = .ok (.iload 6, 2) := by decide +kernel
theorem dc_W_raise_33 : decode bc_W_raise 33 = .ok (.ifCond .lt 76, 3) := by decide +kernel
theorem dc_W_raise_36 : decode bc_W_raise 36 = .ok (.iload 6, 2) := by decide +kernel
theorem dc_W_raise_38 : decode bc_W_raise 38 = .ok (.iload 5, 2) := by decide +kernel
theorem dc_W_raise_40 : decode bc_W_raise 40 = .ok (.if_icmp .ge 16, 3) := by decide +kernel
theorem dc_W_raise_43 : decode bc_W_raise 43 = .ok (.aload_n 1, 1) := by decide +kernel
theorem dc_W_raise_44 : decode bc_W_raise 44 = .ok (.getfield 11, 3) := by decide +kernel
theorem dc_W_raise_47 : decode bc_W_raise 47 = .ok (.iload 6, 2) := by decide +kernel
theorem dc_W_raise_49 : decode bc_W_raise 49 = .ok (.laload, 1) := by decide +kernel
theorem dc_W_raise_50 : decode bc_W_raise 50 = .ok (.iload 4, 2) := by decide +kernel
theorem dc_W_raise_52 : decode bc_W_raise 52 = .ok (.lshl, 1) := by decide +kernel
theorem dc_W_raise_53 : decode bc_W_raise 53 = .ok (.goto 4, 3) := by decide +kernel
theorem dc_W_raise_56 : decode bc_W_raise 56 = .ok (.lconst 0, 1) := by decide +kernel
theorem dc_W_raise_57 : decode bc_W_raise 57 = .ok (.lstore 7, 2) := by decide +kernel
theorem dc_W_raise_59 : decode bc_W_raise 59 = .ok (.iload 6, 2) := by decide +kernel
theorem dc_W_raise_61 : decode bc_W_raise 61 = .ok (.ifCond .le 21, 3) := by decide +kernel
theorem dc_W_raise_64 : decode bc_W_raise 64 = .ok (.aload_n 1, 1) := by decide +kernel
theorem dc_W_raise_65 : decode bc_W_raise 65 = .ok (.getfield 11, 3) := by decide +kernel
theorem dc_W_raise_68 : decode bc_W_raise 68 = .ok (.iload 6, 2) := by decide +kernel
theorem dc_W_raise_70 : decode bc_W_raise 70 = .ok (.iconst 1, 1) := by decide +kernel
theorem dc_W_raise_71 : decode bc_W_raise 71 = .ok (.isub, 1) := by decide +kernel
theorem dc_W_raise_72 : decode bc_W_raise 72 = .ok (.laload, 1) := by decide +kernel
theorem dc_W_raise_73 : decode bc_W_raise 73 = .ok (.bipush 32, 2) := by decide +kernel
theorem dc_W_raise_75 : decode bc_W_raise 75 = .ok (.iload 4, 2) := by decide +kernel
theorem dc_W_raise_77 : decode bc_W_raise 77 = .ok (.isub, 1) := by decide +kernel
theorem dc_W_raise_78 : decode bc_W_raise 78 = .ok (.lushr, 1) := by decide +kernel
theorem dc_W_raise_79 : decode bc_W_raise 79 = .ok (.goto 4, 3) := by decide +kernel
theorem dc_W_raise_82 : decode bc_W_raise 82 = .ok (.lconst 0, 1) := by decide +kernel
theorem dc_W_raise_83 : decode bc_W_raise 83 = .ok (.lstore 9, 2) := by decide +kernel
theorem dc_W_raise_85 : decode bc_W_raise 85 = .ok (.aload_n 0, 1) := by decide +kernel
theorem dc_W_raise_86 : decode bc_W_raise 86 = .ok (.getfield 11, 3) := by decide +kernel
theorem dc_W_raise_89 : decode bc_W_raise 89 = .ok (.iload 6, 2) := by decide +kernel
theorem dc_W_raise_91 : decode bc_W_raise 91 = .ok (.iload_n 3, 1) := by decide +kernel
theorem dc_W_raise_92 : decode bc_W_raise 92 = .ok (.iadd, 1) := by decide +kernel
theorem dc_W_raise_93 : decode bc_W_raise 93 = .ok (.lload 7, 2) := by decide +kernel
theorem dc_W_raise_95 : decode bc_W_raise 95 = .ok (.lload 9, 2) := by decide +kernel
theorem dc_W_raise_97 : decode bc_W_raise 97 = .ok (.lor, 1) := by decide +kernel
theorem dc_W_raise_98 : decode bc_W_raise 98 = .ok (.ldc2_w 35, 3) := by decide +kernel
theorem dc_W_raise_101 : decode bc_W_raise 101 = .ok (.land, 1) := by decide +kernel
theorem dc_W_raise_102 : decode bc_W_raise 102 = .ok (.lastore, 1) := by decide +kernel
theorem dc_W_raise_103 : decode bc_W_raise 103 = .ok (.iinc 6 (-1), 3) := by decide +kernel
theorem dc_W_raise_106 : decode bc_W_raise 106 = .ok (.goto (-75), 3) := by decide +kernel
theorem dc_W_raise_109 : decode bc_W_raise 109 = .ok (.iconst 0, 1) := by decide +kernel
theorem dc_W_raise_110 : decode bc_W_raise 110 = .ok (.istore 6, 2) := by decide +kernel
theorem dc_W_raise_112 : decode bc_W_raise 112 = .ok (.iload 6, 2) := by decide +kernel
theorem dc_W_raise_114 : decode bc_W_raise 114 = .ok (.iload_n 3, 1) := by decide +kernel
theorem dc_W_raise_115 : decode bc_W_raise 115 = .ok (.if_icmp .ge 17, 3) := by decide +kernel
theorem dc_W_raise_118 : decode bc_W_raise 118 = .ok (.aload_n 0, 1) := by decide +kernel
theorem dc_W_raise_119 : decode bc_W_raise 119 = .ok (.getfield 11, 3) := by decide +kernel
theorem dc_W_raise_122 : decode bc_W_raise 122 = .ok (.iload 6, 2) := by decide +kernel
theorem dc_W_raise_124 : decode bc_W_raise 124 = .ok (.lconst 0, 1) := by decide +kernel
theorem dc_W_raise_125 : decode bc_W_raise 125 = .ok (.lastore, 1) := by decide +kernel
theorem dc_W_raise_126 : decode bc_W_raise 126 = .ok (.iinc 6 1, 3) := by decide +kernel
theorem dc_W_raise_129 : decode bc_W_raise 129 = .ok (.goto (-17), 3) := by decide +kernel
theorem dc_W_raise_132 : decode bc_W_raise 132 = .ok (.aload_n 0, 1) := by decide +kernel
theorem dc_W_raise_133 : decode bc_W_raise 133 = .ok (.iload 5, 2) := by decide +kernel
theorem dc_W_raise_135 : decode bc_W_raise 135 = .ok (.iload_n 3, 1) := by decide +kernel
theorem dc_W_raise_136 : decode bc_W_raise 136 = .ok (.iadd, 1) := by decide +kernel
theorem dc_W_raise_137 : decode bc_W_raise 137 = .ok (.iconst 1, 1) := by decide +kernel
theorem dc_W_raise_138 : decode bc_W_raise 138 = .ok (.iadd, 1) := by decide +kernel
theorem dc_W_raise_139 : decode bc_W_raise 139 = .ok (.invokevirtual 37, 3) := by decide +kernel
theorem dc_W_raise_142 : decode bc_W_raise 142 = .ok (.return_, 1) := by decide +kernel
theorem dc_W_sum_0 : decode bc_W_sum 0 = .ok (.aload_n 1, 1) := by decide +kernel
theorem dc_W_sum_1 : decode bc_W_sum 1 = .ok (.getfield 15, 3) := by decide +kernel
theorem dc_W_sum_4 : decode bc_W_sum 4 = .ok (.aload_n 2, 1) := by decide +kernel
theorem dc_W_sum_5 : decode bc_W_sum 5 = .ok (.getfield 15, 3) := by decide +kernel
theorem dc_W_sum_8 : decode bc_W_sum 8 = .ok (.if_icmp .lt 7, 3) := by decide +kernel
theorem dc_W_sum_11 : decode bc_W_sum 11 = .ok (.aload_n 1, 1) := by decide +kernel
theorem dc_W_sum_12 : decode bc_W_sum 12 = .ok (.goto 4, 3) := by decide +kernel
theorem dc_W_sum_15 : decode bc_W_sum 15 = .ok (.aload_n 2, 1) := by decide +kernel
theorem dc_W_sum_16 : decode bc_W_sum 16 = .ok (.astore_n 3, 1) := by decide +kernel
theorem dc_W_sum_17 : decode bc_W_sum 17 = .ok (.aload_n 1, 1) := by decide +kernel
theorem dc_W_sum_18 : decode bc_W_sum 18 = .ok (.getfield 15, 3) := by decide +kernel
theorem dc_W_sum_21 : decode bc_W_sum 21 = .ok (.aload_n 2, 1) := by decide +kernel
theorem dc_W_sum_22 : decode bc_W_sum 22 = .ok (.getfield 15, 3) := by decide +kernel
theorem dc_W_sum_25 : decode bc_W_sum 25 = .ok (.if_icmp .lt 7, 3) := by decide +kernel
theorem dc_W_sum_28 : decode bc_W_sum 28 = .ok (.aload_n 2, 1) := by decide +kernel
theorem dc_W_sum_29 : decode bc_W_sum 29 = .ok (.goto 4, 3) := by decide +kernel
theorem dc_W_sum_32 : decode bc_W_sum 32 = .ok (.aload_n 1, 1) := by decide +kernel
theorem dc_W_sum_33 : decode bc_W_sum 33 = .ok (.astore 4, 2) := by decide +kernel
theorem dc_W_sum_35 : decode bc_W_sum 35 = .ok (.aload_n 3, 1) := by decide +kernel
theorem dc_W_sum_36 : decode bc_W_sum 36 = .ok (.getfield 15, 3) := by decide +kernel
theorem dc_W_sum_39 : decode bc_W_sum 39 = .ok (.istore 5, 2) := by decide +kernel
theorem dc_W_sum_41 : decode bc_W_sum 41 = .ok (.aload 4, 2) := by decide +kernel
theorem dc_W_sum_43 : decode bc_W_sum 43 = .ok (.getfield 15, 3) := by decide +kernel
theorem dc_W_sum_46 : decode bc_W_sum 46 = .ok (.istore 6, 2) := by decide +kernel
theorem dc_W_sum_48 : decode bc_W_sum 48 = .ok (.aload_n 0, 1) := by decide +kernel
theorem dc_W_sum_49 : decode bc_W_sum 49 = .ok (.iload 5, 2) := by decide +kernel
theorem dc_W_sum_51 : decode bc_W_sum 51 = .ok (.iconst 1, 1) := by decide +kernel
theorem dc_W_sum_52 : decode bc_W_sum 52 = .ok (.iadd, 1) := by decide +kernel
theorem dc_W_sum_53 : decode bc_W_sum 53 = .ok (.invokevirtual 31, 3) := by decide +kernel
theorem dc_W_sum_56 : decode bc_W_sum 56 = .ok (.lconst 0, 1) := by decide +kernel
theorem dc_W_sum_57 : decode bc_W_sum 57 = .ok (.lstore 7, 2) := by decide +kernel
theorem dc_W_sum_59 : decode bc_W_sum 59 = .ok (.iconst 0, 1) := by decide +kernel
theorem dc_W_sum_60 : decode bc_W_sum 60 = .ok (.istore 9, 2) := by decide +kernel
theorem dc_W_sum_62 : decode bc_W_sum 62 = .ok (.iload 9, 2) := by decide +kernel
theorem dc_W_sum_64 : decode bc_W_sum 64 = .ok (.iload 5, 2) := by decide +kernel
theorem dc_W_sum_66 : decode bc_W_sum 66 = .ok (.if_icmp .ge 61, 3) := by decide +kernel
theorem dc_W_sum_69 : decode bc_W_sum 69 = .ok (.aload_n 3, 1) := by decide +kernel
theorem dc_W_sum_70 : decode bc_W_sum 70 = .ok (.getfield 11, 3) := by decide +kernel
theorem dc_W_sum_73 : decode bc_W_sum 73 = .ok (.iload 9, 2) := by decide +kernel
theorem dc_W_sum_75 : decode bc_W_sum 75 = .ok (.laload, 1) := by decide +kernel
theorem dc_W_sum_76 : decode bc_W_sum 76 = .ok (.lload 7, 2) := by decide +kernel
theorem dc_W_sum_78 : decode bc_W_sum 78 = .ok (.ladd, 1) := by decide +kernel
theorem dc_W_sum_79 : decode bc_W_sum 79 = .ok (.iload 9, 2) := by decide +kernel
theorem dc_W_sum_81 : decode bc_W_sum 81 = .ok (.iload 6, 2) := by decide +kernel
theorem dc_W_sum_83 : decode bc_W_sum 83 = .ok (.if_icmp .ge 14, 3) := by decide +kernel
theorem dc_W_sum_86 : decode bc_W_sum 86 = .ok (.aload 4, 2) := by decide +kernel
theorem dc_W_sum_88 : decode bc_W_sum 88 = .ok (.getfield 11, 3) := by decide +kernel
theorem dc_W_sum_91 : decode bc_W_sum 91 = .ok (.iload 9, 2) := by decide +kernel
theorem dc_W_sum_93 : decode bc_W_sum 93 = .ok (.laload, 1) := by decide +kernel
theorem dc_W_sum_94 : decode bc_W_sum 94 = .ok (.goto 4, 3) := by decide +kernel
theorem dc_W_sum_97 : decode bc_W_sum 97 = .ok (.lconst 0, 1) := by decide +kernel
theorem dc_W_sum_98 : decode bc_W_sum 98 = .ok (.ladd, 1) := by decide +kernel
theorem dc_W_sum_99 : decode bc_W_sum 99 = .ok (.lstore 10, 2) := by decide +kernel
theorem dc_W_sum_101 : decode bc_W_sum 101 = .ok (.aload_n 0, 1) := by decide +kernel
theorem dc_W_sum_102 : decode bc_W_sum 102 = .ok (.getfield 11, 3) := by decide +kernel
theorem dc_W_sum_105 : decode bc_W_sum 105 = .ok (.iload 9, 2) := by decide +kernel
theorem dc_W_sum_107 : decode bc_W_sum 107 = .ok (.lload 10, 2) := by decide +kernel
theorem dc_W_sum_109 : decode bc_W_sum 109 = .ok (.ldc2_w 35, 3) := by decide +kernel
theorem dc_W_sum_112 : decode bc_W_sum 112 = .ok (.land, 1) := by decide +kernel
theorem dc_W_sum_113 : decode bc_W_sum 113 = .ok (.lastore, 1) := by decide +kernel
theorem dc_W_sum_114 : decode bc_W_sum 114 = .ok (.lload 10, 2) := by decide +kernel
theorem dc_W_sum_116 : decode bc_W_sum 116 = .ok (.bipush 32, 2) := by decide +kernel
theorem dc_W_sum_118 : decode bc_W_sum 118 = .ok (.lushr, 1) := by decide +kernel
theorem dc_W_sum_119 : decode bc_W_sum 119 = .ok (.lstore 7, 2) := by decide +kernel
theorem dc_W_sum_121 : decode bc_W_sum 121 = .ok (.iinc 9 1, 3) := by decide +kernel
theorem dc_W_sum_124 : decode bc_W_sum 124 = .ok (.goto (-62), 3) := by decide +kernel
theorem dc_W_sum_127 : decode bc_W_sum 127 = .ok (.aload_n 0, 1) := by decide +kernel
theorem dc_W_sum_128 : decode bc_W_sum 128 = .ok (.getfield 11, 3) := by decide +kernel
theorem dc_W_sum_131 : decode bc_W_sum 131 = .ok (.iload 5, 2) := by decide +kernel
theorem dc_W_sum_133 : decode bc_W_sum 133 = .ok (.lload 7, 2) := by decide +kernel
theorem dc_W_sum_135 : decode bc_W_sum 135 = .ok (.lastore, 1) := by decide +kernel
theorem dc_W_sum_136 : decode bc_W_sum 136 = .ok (.aload_n 0, 1) := by decide +kernel
theorem dc_W_sum_137 : decode bc_W_sum 137 = .ok (.iload 5, 2) := by decide +kernel
theorem dc_W_sum_139 : decode bc_W_sum 139 = .ok (.iconst 1, 1) := by decide +kernel
theorem dc_W_sum_140 : decode bc_W_sum 140 = .ok (.iadd, 1) := by decide +kernel
theorem dc_W_sum_141 : decode bc_W_sum 141 = .ok (.invokevirtual 37, 3) := by decide +kernel
theorem dc_W_sum_144 : decode bc_W_sum 144 = .ok (.return_, 1) := by decide +kernel
theorem dc_W_repeat_0 : decode bc_W_repeat 0 = .ok (.aload_n 0, 1) := by decide +kernel
theorem dc_W_repeat_1 : decode bc_W_repeat 1 = .ok (.iconst 2, 1) := by decide +kernel
theorem dc_W_repeat_2 : decode bc_W_repeat 2 = .ok (.iload_n 3, 1) := by decide +kernel
theorem dc_W_repeat_3 : decode bc_W_repeat 3 = .ok (.imul, 1) := by decide +kernel
theorem dc_W_repeat_4 : decode bc_W_repeat 4 = .ok (.invokevirtual 31, 3) := by decide +kernel
theorem dc_W_repeat_7 : decode bc_W_repeat 7 = .ok (.iconst 0, 1) := by decide +kernel
theorem dc_W_repeat_8 : decode bc_W_repeat 8 = .ok (.istore 4, 2) := by decide +kernel
theorem dc_W_repeat_10 : decode bc_W_repeat 10 = .ok (.iload 4, 2) := by decide +kernel
theorem dc_W_repeat_12 : decode bc_W_repeat 12 = .ok (.iload_n 3, 1) := by decide +kernel
theorem dc_W_repeat_13 : decode bc_W_repeat 13 = .ok (.if_icmp .ge 38, 3) := by decide +kernel
theorem dc_W_repeat_16 : decode bc_W_repeat 16 = .ok (.aload_n 0, 1) := by decide +kernel
theorem dc_W_repeat_17 : decode bc_W_repeat 17 = .ok (.getfield 11, 3) := by decide +kernel
theorem dc_W_repeat_20 : decode bc_W_repeat 20 = .ok (.iconst 2, 1) := by decide +kernel
theorem dc_W_repeat_21 : decode bc_W_repeat 21 = .ok (.iload 4, 2) := by decide +kernel
theorem dc_W_repeat_23 : decode bc_W_repeat 23 = .ok (.imul, 1) := by decide +kernel
theorem dc_W_repeat_24 : decode bc_W_repeat 24 = .ok (.lload_n 1, 1) := by decide +kernel
theorem dc_W_repeat_25 : decode bc_W_repeat 25 = .ok (.ldc2_w 35, 3) := by decide +kernel
theorem dc_W_repeat_28 : decode bc_W_repeat 28 = .ok (.land, 1) := by decide +kernel
theorem dc_W_repeat_29 : decode bc_W_repeat 29 = .ok (.lastore, 1) := by decide +kernel
theorem dc_W_repeat_30 : decode bc_W_repeat 30 = .ok (.aload_n 0, 1) := by decide +kernel
theorem dc_W_repeat_31 : decode bc_W_repeat 31 = .ok (.getfield 11, 3) := by decide +kernel
theorem dc_W_repeat_34 : decode bc_W_repeat 34 = .ok (.iconst 2, 1) := by decide +kernel
theorem dc_W_repeat_35 : decode bc_W_repeat 35 = .ok (.iload 4, 2) := by decide +kernel
theorem dc_W_repeat_37 : decode bc_W_repeat 37 = .ok (.imul, 1) := by decide +kernel
theorem dc_W_repeat_38 : decode bc_W_repeat 38 = .ok (.iconst 1, 1) := by decide +kernel
theorem dc_W_repeat_39 : decode bc_W_repeat 39 = .ok (.iadd, 1) := by decide +kernel
theorem dc_W_repeat_40 : decode bc_W_repeat 40 = .ok (.lload_n 1, 1) := by decide +kernel
theorem dc_W_repeat_41 : decode bc_W_repeat 41 = .ok (.bipush 32, 2) := by decide +kernel
theorem dc_W_repeat_43 : decode bc_W_repeat 43 = .ok (.lushr, 1) := by decide +kernel
theorem dc_W_repeat_44 : decode bc_W_repeat 44 = .ok (.lastore, 1) := by decide +kernel
theorem dc_W_repeat_45 : decode bc_W_repeat 45 = .ok (.iinc 4 1, 3) := by decide +kernel
theorem dc_W_repeat_48 : decode bc_W_repeat 48 = .ok (.goto (-38), 3) := by decide +kernel
theorem dc_W_repeat_51 : decode bc_W_repeat 51 = .ok (.aload_n 0, 1) := by decide +kernel
theorem dc_W_repeat_52 : decode bc_W_repeat 52 = .ok (.iconst 2, 1) := by decide +kernel
theorem dc_W_repeat_53 : decode bc_W_repeat 53 = .ok (.iload_n 3, 1) := by decide +kernel
theorem dc_W_repeat_54 : decode bc_W_repeat 54 = .ok (.imul, 1) := by decide +kernel
theorem dc_W_repeat_55 : decode bc_W_repeat 55 = .ok (.invokevirtual 37, 3) := by decide +kernel
theorem dc_W_repeat_58 : decode bc_W_repeat 58 = .ok (.return_, 1) := by decide +kernel
theorem dc_W_against_0 : decode bc_W_against 0 = .ok (.aload_n 0, 1) := by decide +kernel
theorem dc_W_against_1 : decode bc_W_against 1 = .ok (.getfield 15, 3) := by decide +kernel
theorem dc_W_against_4 : decode bc_W_against 4 = .ok (.aload_n 1, 1) := by decide +kernel
theorem dc_W_against_5 : decode bc_W_against 5 = .ok (.getfield 15, 3) := by decide +kernel
theorem dc_W_against_8 : decode bc_W_against 8 = .ok (.if_icmp .eq 20, 3) := by decide +kernel
theorem dc_W_against_11 : decode bc_W_against 11 = .ok (.aload_n 0, 1) := by decide +kernel
theorem dc_W_against_12 : decode bc_W_against 12 = .ok (.getfield 15, 3) := by decide +kernel
theorem dc_W_against_15 : decode bc_W_against 15 = .ok (.aload_n 1, 1) := by decide +kernel
theorem dc_W_against_16 : decode bc_W_against 16 = .ok (.getfield 15, 3) := by decide +kernel
theorem dc_W_against_19 : decode bc_W_against 19 = .ok (.if_icmp .ge 7, 3) := by decide +kernel
theorem dc_W_against_22 : decode bc_W_against 22 = .ok (.iconst (-1), 1) := by decide +kernel
theorem dc_W_against_23 : decode bc_W_against 23 = .ok (.goto 4, 3) := by decide +kernel
theorem dc_W_against_26 : decode bc_W_against 26 = .ok (.iconst 1, 1) := by decide +kernel
theorem dc_W_against_27 : decode bc_W_against 27 = .ok (.ireturn, 1) := by decide +kernel
theorem dc_W_against_28 : decode bc_W_against 28 = .ok (.aload_n 0, 1) := by decide +kernel
theorem dc_W_against_29 : decode bc_W_against 29 = .ok (.getfield 15, 3) := by decide +kernel
theorem dc_W_against_32 : decode bc_W_against 32 = .ok (.iconst 1, 1) := by decide +kernel
theorem dc_W_against_33 : decode bc_W_against 33 = .ok (.isub, 1) := by decide +kernel
theorem dc_W_against_34 : decode bc_W_against 34 = .ok (.istore_n 2, 1) := by decide +kernel
theorem dc_W_against_35 : decode bc_W_against 35 = .ok (.iload_n 2, 1) := by decide +kernel
theorem dc_W_against_36 : decode bc_W_against 36 = .ok (.ifCond .lt 47, 3) := by decide +kernel
theorem dc_W_against_39 : decode bc_W_against 39 = .ok (.aload_n 0, 1) := by decide +kernel
theorem dc_W_against_40 : decode bc_W_against 40 = .ok (.getfield 11, 3) := by decide +kernel
theorem dc_W_against_43 : decode bc_W_against 43 = .ok (.iload_n 2, 1) := by decide +kernel
theorem dc_W_against_44 : decode bc_W_against 44 = .ok (.laload, 1) := by decide +kernel
theorem dc_W_against_45 : decode bc_W_against 45 = .ok (.aload_n 1, 1) := by decide +kernel
theorem dc_W_against_46 : decode bc_W_against 46 = .ok (.getfield 11, 3) := by decide +kernel
theorem dc_W_against_49 : decode bc_W_against 49 = .ok (.iload_n 2, 1) := by decide +kernel
theorem dc_W_against_50 : decode bc_W_against 50 = .ok (.laload, 1) := by decide +kernel
theorem dc_W_against_51 : decode bc_W_against 51 = .ok (.lcmp, 1) := by decide +kernel
theorem dc_W_against_52 : decode bc_W_against 52 = .ok (.ifCond .eq 25, 3) := by decide +kernel
theorem dc_W_against_55 : decode bc_W_against 55 = .ok (.aload_n 0, 1) := by decide +kernel
theorem dc_W_against_56 : decode bc_W_against 56 = .ok (.getfield 11, 3) := by decide +kernel
theorem dc_W_against_59 : decode bc_W_against 59 = .ok (.iload_n 2, 1) := by decide +kernel
theorem dc_W_against_60 : decode bc_W_against 60 = .ok (.laload, 1) := by decide +kernel
theorem dc_W_against_61 : decode bc_W_against 61 = .ok (.aload_n 1, 1) := by decide +kernel
theorem dc_W_against_62 : decode bc_W_against 62 = .ok (.getfield 11, 3) := by decide +kernel
theorem dc_W_against_65 : decode bc_W_against 65 = .ok (.iload_n 2, 1) := by decide +kernel
theorem dc_W_against_66 : decode bc_W_against 66 = .ok (.laload, 1) := by decide +kernel
theorem dc_W_against_67 : decode bc_W_against 67 = .ok (.lcmp, 1) := by decide +kernel
theorem dc_W_against_68 : decode bc_W_against 68 = .ok (.ifCond .ge 7, 3) := by decide +kernel
theorem dc_W_against_71 : decode bc_W_against 71 = .ok (.iconst (-1), 1) := by decide +kernel
theorem dc_W_against_72 : decode bc_W_against 72 = .ok (.goto 4, 3) := by decide +kernel
theorem dc_W_against_75 : decode bc_W_against 75 = .ok (.iconst 1, 1) := by decide +kernel
theorem dc_W_against_76 : decode bc_W_against 76 = .ok (.ireturn, 1) := by decide +kernel
theorem dc_W_against_77 : decode bc_W_against 77 = .ok (.iinc 2 (-1), 3) := by decide +kernel
theorem dc_W_against_80 : decode bc_W_against 80 = .ok (.goto (-45), 3) := by decide +kernel
theorem dc_W_against_83 : decode bc_W_against 83 = .ok (.iconst 0, 1) := by decide +kernel
theorem dc_W_against_84 : decode bc_W_against 84 = .ok (.ireturn, 1) := by decide +kernel
theorem dc_W_difference_0 : decode bc_W_difference 0 = .ok (.aload_n 1, 1) := by decide +kernel
theorem dc_W_difference_1 : decode bc_W_difference 1 = .ok (.getfield 15, 3) := by decide +kernel
theorem dc_W_difference_4 : decode bc_W_difference 4 = .ok (.istore_n 3, 1) := by decide +kernel
theorem dc_W_difference_5 : decode bc_W_difference 5 = .ok (.aload_n 2, 1) := by decide +kernel
theorem dc_W_difference_6 : decode bc_W_difference 6 = .ok (.getfield 15, 3) := by decide +kernel
theorem dc_W_difference_9 : decode bc_W_difference 9 = .ok (.istore 4, 2) := by decide +kernel
theorem dc_W_difference_11 : decode bc_W_difference 11 = .ok (.aload_n 0, 1) := by decide +kernel
theorem dc_W_difference_12 : decode bc_W_difference 12 = .ok (.iload_n 3, 1) := by decide +kernel
theorem dc_W_difference_13 : decode bc_W_difference 13 = .ok (.invokevirtual 31, 3) := by decide +kernel
theorem dc_W_difference_16 : decode bc_W_difference 16 = .ok (.lconst 0, 1) := by decide +kernel
theorem dc_W_difference_17 : decode bc_W_difference 17 = .ok (.lstore 5, 2) := by decide +kernel
theorem dc_W_difference_19 : decode bc_W_difference 19 = .ok (.iconst 0, 1) := by decide +kernel
theorem dc_W_difference_20 : decode bc_W_difference 20 = .ok (.istore 7, 2) := by decide +kernel
theorem dc_W_difference_22 : decode bc_W_difference 22 = .ok (.iload 7, 2) := by decide +kernel
theorem dc_W_difference_24 : decode bc_W_difference 24 = .ok (.iload_n 3, 1) := by decide +kernel
theorem dc_W_difference_25 : decode bc_W_difference 25 = .ok (.if_icmp .ge 60, 3) := by decide +kernel
theorem dc_W_difference_28 : decode bc_W_difference 28 = .ok (.aload_n 1, 1) := by decide +kernel
theorem dc_W_difference_29 : decode bc_W_difference 29 = .ok (.getfield 11, 3) := by decide +kernel
theorem dc_W_difference_32 : decode bc_W_difference 32 = .ok (.iload 7, 2) := by decide +kernel
theorem dc_W_difference_34 : decode bc_W_difference 34 = .ok (.laload, 1) := by decide +kernel
theorem dc_W_difference_35 : decode bc_W_difference 35 = .ok (.lload 5, 2) := by decide +kernel
theorem dc_W_difference_37 : decode bc_W_difference 37 = .ok (.lsub, 1) := by decide +kernel
theorem dc_W_difference_38 : decode bc_W_difference 38 = .ok (.iload 7, 2) := by decide +kernel
theorem dc_W_difference_40 : decode bc_W_difference 40 = .ok (.iload 4, 2) := by decide +kernel
theorem dc_W_difference_42 : decode bc_W_difference 42 = .ok (.if_icmp .ge 13, 3) := by decide +kernel
theorem dc_W_difference_45 : decode bc_W_difference 45 = .ok (.aload_n 2, 1) := by decide +kernel
theorem dc_W_difference_46 : decode bc_W_difference 46 = .ok (.getfield 11, 3) := by decide +kernel
theorem dc_W_difference_49 : decode bc_W_difference 49 = .ok (.iload 7, 2) := by decide +kernel
theorem dc_W_difference_51 : decode bc_W_difference 51 = .ok (.laload, 1) := by decide +kernel
theorem dc_W_difference_52 : decode bc_W_difference 52 = .ok (.goto 4, 3) := by decide +kernel
theorem dc_W_difference_55 : decode bc_W_difference 55 = .ok (.lconst 0, 1) := by decide +kernel
theorem dc_W_difference_56 : decode bc_W_difference 56 = .ok (.lsub, 1) := by decide +kernel
theorem dc_W_difference_57 : decode bc_W_difference 57 = .ok (.lstore 8, 2) := by decide +kernel
theorem dc_W_difference_59 : decode bc_W_difference 59 = .ok (.aload_n 0, 1) := by decide +kernel
theorem dc_W_difference_60 : decode bc_W_difference 60 = .ok (.getfield 11, 3) := by decide +kernel
theorem dc_W_difference_63 : decode bc_W_difference 63 = .ok (.iload 7, 2) := by decide +kernel
theorem dc_W_difference_65 : decode bc_W_difference 65 = .ok (.lload 8, 2) := by decide +kernel
theorem dc_W_difference_67 : decode bc_W_difference 67 = .ok (.ldc2_w 35, 3) := by decide +kernel
theorem dc_W_difference_70 : decode bc_W_difference 70 = .ok (.land, 1) := by decide +kernel
theorem dc_W_difference_71 : decode bc_W_difference 71 = .ok (.lastore, 1) := by decide +kernel
theorem dc_W_difference_72 : decode bc_W_difference 72 = .ok (.lload 8, 2) := by decide +kernel
theorem dc_W_difference_74 : decode bc_W_difference 74 = .ok (.bipush 63, 2) := by decide +kernel
theorem dc_W_difference_76 : decode bc_W_difference 76 = .ok (.lushr, 1) := by decide +kernel
theorem dc_W_difference_77 : decode bc_W_difference 77 = .ok (.lstore 5, 2) := by decide +kernel
theorem dc_W_difference_79 : decode bc_W_difference 79 = .ok (.iinc 7 1, 3) := by decide +kernel
theorem dc_W_difference_82 : decode bc_W_difference 82 = .ok (.goto (-60), 3) := by decide +kernel
theorem dc_W_difference_85 : decode bc_W_difference 85 = .ok (.aload_n 0, 1) := by decide +kernel
theorem dc_W_difference_86 : decode bc_W_difference 86 = .ok (.iload_n 3, 1) := by decide +kernel
theorem dc_W_difference_87 : decode bc_W_difference 87 = .ok (.invokevirtual 37, 3) := by decide +kernel
theorem dc_W_difference_90 : decode bc_W_difference 90 = .ok (.return_, 1) := by decide +kernel
theorem dc_W_product_0 : decode bc_W_product 0 = .ok (.aload_n 1, 1) := by decide +kernel
theorem dc_W_product_1 : decode bc_W_product 1 = .ok (.getfield 15, 3) := by decide +kernel
theorem dc_W_product_4 : decode bc_W_product 4 = .ok (.aload_n 2, 1) := by decide +kernel
theorem dc_W_product_5 : decode bc_W_product 5 = .ok (.getfield 15, 3) := by decide +kernel
theorem dc_W_product_8 : decode bc_W_product 8 = .ok (.iadd, 1) := by decide +kernel
theorem dc_W_product_9 : decode bc_W_product 9 = .ok (.istore_n 3, 1) := by decide +kernel
theorem dc_W_product_10 : decode bc_W_product 10 = .ok (.aload_n 0, 1) := by decide +kernel
theorem dc_W_product_11 : decode bc_W_product 11 = .ok (.invokevirtual 66, 3) := by decide +kernel
theorem dc_W_product_14 : decode bc_W_product 14 = .ok (.aload_n 0, 1) := by decide +kernel
theorem dc_W_product_15 : decode bc_W_product 15 = .ok (.iload_n 3, 1) := by decide +kernel
theorem dc_W_product_16 : decode bc_W_product 16 = .ok (.invokevirtual 69, 3) := by decide +kernel
theorem dc_W_product_19 : decode bc_W_product 19 = .ok (.iconst 0, 1) := by decide +kernel
theorem dc_W_product_20 : decode bc_W_product 20 = .ok (.istore 4, 2) := by decide +kernel
theorem dc_W_product_22 : decode bc_W_product 22 = .ok (.iload 4, 2) := by decide +kernel
theorem dc_W_product_24 : decode bc_W_product 24 = .ok (.aload_n 1, 1) := by decide +kernel
theorem dc_W_product_25 : decode bc_W_product 25 = .ok (.getfield 15, 3) := by decide +kernel
theorem dc_W_product_28 : decode bc_W_product 28 = .ok (.if_icmp .ge 35, 3) := by decide +kernel
theorem dc_W_product_31 : decode bc_W_product 31 = .ok (.aload_n 1, 1) := by decide +kernel
theorem dc_W_product_32 : decode bc_W_product 32 = .ok (.getfield 11, 3) := by decide +kernel
theorem dc_W_product_35 : decode bc_W_product 35 = .ok (.iload 4, 2) := by decide +kernel
theorem dc_W_product_37 : decode bc_W_product 37 = .ok (.laload, 1) := by decide +kernel
theorem dc_W_product_38 : decode bc_W_product 38 = .ok (.lconst 0, 1) := by decide +kernel
theorem dc_W_product_39 : decode bc_W_product 39 = .ok (.lcmp, 1) := by decide +kernel
theorem dc_W_product_40 : decode bc_W_product 40 = .ok (.ifCond .eq 17, 3) := by decide +kernel
theorem dc_W_product_43 : decode bc_W_product 43 = .ok (.aload_n 0, 1) := by decide +kernel
theorem dc_W_product_44 : decode bc_W_product 44 = .ok (.iload 4, 2) := by decide +kernel
theorem dc_W_product_46 : decode bc_W_product 46 = .ok (.aload_n 1, 1) := by decide +kernel
theorem dc_W_product_47 : decode bc_W_product 47 = .ok (.getfield 11, 3) := by decide +kernel
theorem dc_W_product_50 : decode bc_W_product 50 = .ok (.iload 4, 2) := by decide +kernel
theorem dc_W_product_52 : decode bc_W_product 52 = .ok (.laload, 1) := by decide +kernel
theorem dc_W_product_53 : decode bc_W_product 53 = .ok (.aload_n 2, 1) := by decide +kernel
theorem dc_W_product_54 : decode bc_W_product 54 = .ok (.invokevirtual 72, 3) := by decide +kernel
theorem dc_W_product_57 : decode bc_W_product 57 = .ok (.iinc 4 1, 3) := by decide +kernel
theorem dc_W_product_60 : decode bc_W_product 60 = .ok (.goto (-38), 3) := by decide +kernel
theorem dc_W_product_63 : decode bc_W_product 63 = .ok (.aload_n 0, 1) := by decide +kernel
theorem dc_W_product_64 : decode bc_W_product 64 = .ok (.iload_n 3, 1) := by decide +kernel
theorem dc_W_product_65 : decode bc_W_product 65 = .ok (.invokevirtual 37, 3) := by decide +kernel
theorem dc_W_product_68 : decode bc_W_product 68 = .ok (.return_, 1) := by decide +kernel
theorem dc_W_clear_0 : decode bc_W_clear 0 = .ok (.aload_n 0, 1) := by decide +kernel
theorem dc_W_clear_1 : decode bc_W_clear 1 = .ok (.iconst 0, 1) := by decide +kernel
theorem dc_W_clear_2 : decode bc_W_clear 2 = .ok (.putfield 15, 3) := by decide +kernel
theorem dc_W_clear_5 : decode bc_W_clear 5 = .ok (.return_, 1) := by decide +kernel
theorem dc_W_widen_0 : decode bc_W_widen 0 = .ok (.aload_n 0, 1) := by decide +kernel
theorem dc_W_widen_1 : decode bc_W_widen 1 = .ok (.iload_n 1, 1) := by decide +kernel
theorem dc_W_widen_2 : decode bc_W_widen 2 = .ok (.invokevirtual 31, 3) := by decide +kernel
theorem dc_W_widen_5 : decode bc_W_widen 5 = .ok (.aload_n 0, 1) := by decide +kernel
theorem dc_W_widen_6 : decode bc_W_widen 6 = .ok (.getfield 15, 3) := by decide +kernel
theorem dc_W_widen_9 : decode bc_W_widen 9 = .ok (.istore_n 2, 1) := by decide +kernel
theorem dc_W_widen_10 : decode bc_W_widen 10 = .ok (.iload_n 2, 1) := by decide +kernel
theorem dc_W_widen_11 : decode bc_W_widen 11 = .ok (.iload_n 1, 1) := by decide +kernel
theorem dc_W_widen_12 : decode bc_W_widen 12 = .ok (.if_icmp .ge 16, 3) := by decide +kernel
theorem dc_W_widen_15 : decode bc_W_widen 15 = .ok (.aload_n 0, 1) := by decide +kernel
theorem dc_W_widen_16 : decode bc_W_widen 16 = .ok (.getfield 11, 3) := by decide +kernel
theorem dc_W_widen_19 : decode bc_W_widen 19 = .ok (.iload_n 2, 1) := by decide +kernel
theorem dc_W_widen_20 : decode bc_W_widen 20 = .ok (.lconst 0, 1) := by decide +kernel
theorem dc_W_widen_21 : decode bc_W_widen 21 = .ok (.lastore, 1) := by decide +kernel
theorem dc_W_widen_22 : decode bc_W_widen 22 = .ok (.iinc 2 1, 3) := by decide +kernel
theorem dc_W_widen_25 : decode bc_W_widen 25 = .ok (.goto (-15), 3) := by decide +kernel
theorem dc_W_widen_28 : decode bc_W_widen 28 = .ok (.return_, 1) := by decide +kernel
theorem dc_W_addMultiple_0 : decode bc_W_addMultiple 0 = .ok (.aload_n 0, 1) := by decide +kernel
theorem dc_W_addMultiple_1 : decode bc_W_addMultiple 1 = .ok (.getfield 11, 3) := by decide +kernel
theorem dc_W_addMultiple_4 : decode bc_W_addMultiple 4 = .ok (.astore 5, 2) := by decide +kernel
theorem dc_W_addMultiple_6 : decode bc_W_addMultiple 6 = .ok (.aload 4, 2) := by decide +kernel
theorem dc_W_addMultiple_8 : decode bc_W_addMultiple 8 = .ok (.getfield 11, 3) := by decide +kernel
theorem dc_W_addMultiple_11 : decode bc_W_addMultiple 11 = .ok (.astore 6, 2) := by decide +kernel
theorem dc_W_addMultiple_13 : decode bc_W_addMultiple 13 = .ok (.aload 4, 2) := by decide +kernel
theorem dc_W_addMultiple_15 : decode bc_W_addMultiple 15 = .ok (.getfield 15, 3) := by decide +kernel
theorem dc_W_addMultiple_18 : decode bc_W_addMultiple 18 = .ok (.istore 7, 2) := by decide +kernel
theorem dc_W_addMultiple_20 : decode bc_W_addMultiple 20 = .ok (.lconst 0, 1) := by decide +kernel
theorem dc_W_addMultiple_21 : decode bc_W_addMultiple 21 = .ok (.lstore 8, 2) := by decide +kernel
theorem dc_W_addMultiple_23 : decode bc_W_addMultiple 23 = .ok (.iconst 0, 1) := by decide +kernel
theorem dc_W_addMultiple_24 : decode bc_W_addMultiple 24 = .ok (.istore 10, 2) := by decide +kernel
theorem dc_W_addMultiple_26 : decode bc_W_addMultiple 26 = .ok (.iload 10, 2) := by decide +kernel
theorem dc_W_addMultiple_28 : decode bc_W_addMultiple 28 = .ok (.iload 7, 2) := by decide +kernel
theorem dc_W_addMultiple_30 : decode bc_W_addMultiple 30 = .ok (.if_icmp .ge 49, 3) := by decide +kernel
theorem dc_W_addMultiple_33 : decode bc_W_addMultiple 33 = .ok (.lload_n 2, 1) := by decide +kernel
theorem dc_W_addMultiple_34 : decode bc_W_addMultiple 34 = .ok (.aload 6, 2) := by decide +kernel
theorem dc_W_addMultiple_36 : decode bc_W_addMultiple 36 = .ok (.iload 10, 2) := by decide +kernel
theorem dc_W_addMultiple_38 : decode bc_W_addMultiple 38 = .ok (.laload, 1) := by decide +kernel
theorem dc_W_addMultiple_39 : decode bc_W_addMultiple 39 = .ok (.lmul, 1) := by decide +kernel
theorem dc_W_addMultiple_40 : decode bc_W_addMultiple 40 = .ok (.aload 5, 2) := by decide +kernel
theorem dc_W_addMultiple_42 : decode bc_W_addMultiple 42 = .ok (.iload_n 1, 1) := by decide +kernel
theorem dc_W_addMultiple_43 : decode bc_W_addMultiple 43 = .ok (.iload 10, 2) := by decide +kernel
theorem dc_W_addMultiple_45 : decode bc_W_addMultiple 45 = .ok (.iadd, 1) := by decide +kernel
theorem dc_W_addMultiple_46 : decode bc_W_addMultiple 46 = .ok (.laload, 1) := by decide +kernel
theorem dc_W_addMultiple_47 : decode bc_W_addMultiple 47 = .ok (.ladd, 1) := by decide +kernel
theorem dc_W_addMultiple_48 : decode bc_W_addMultiple 48 = .ok (.lload 8, 2) := by decide +kernel
theorem dc_W_addMultiple_50 : decode bc_W_addMultiple 50 = .ok (.ladd, 1) := by decide +kernel
theorem dc_W_addMultiple_51 : decode bc_W_addMultiple 51 = .ok (.lstore 11, 2) := by decide +kernel
theorem dc_W_addMultiple_53 : decode bc_W_addMultiple 53 = .ok (.aload 5, 2) := by decide +kernel
theorem dc_W_addMultiple_55 : decode bc_W_addMultiple 55 = .ok (.iload_n 1, 1) := by decide +kernel
theorem dc_W_addMultiple_56 : decode bc_W_addMultiple 56 = .ok (.iload 10, 2) := by decide +kernel
theorem dc_W_addMultiple_58 : decode bc_W_addMultiple 58 = .ok (.iadd, 1) := by decide +kernel
theorem dc_W_addMultiple_59 : decode bc_W_addMultiple 59 = .ok (.lload 11, 2) := by decide +kernel
theorem dc_W_addMultiple_61 : decode bc_W_addMultiple 61 = .ok (.ldc2_w 35, 3) := by decide +kernel
theorem dc_W_addMultiple_64 : decode bc_W_addMultiple 64 = .ok (.land, 1) := by decide +kernel
theorem dc_W_addMultiple_65 : decode bc_W_addMultiple 65 = .ok (.lastore, 1) := by decide +kernel
theorem dc_W_addMultiple_66 : decode bc_W_addMultiple 66 = .ok (.lload 11, 2) := by decide +kernel
theorem dc_W_addMultiple_68 : decode bc_W_addMultiple 68 = .ok (.bipush 32, 2) := by decide +kernel
theorem dc_W_addMultiple_70 : decode bc_W_addMultiple 70 = .ok (.lushr, 1) := by decide +kernel
theorem dc_W_addMultiple_71 : decode bc_W_addMultiple 71 = .ok (.lstore 8, 2) := by decide +kernel
theorem dc_W_addMultiple_73 : decode bc_W_addMultiple 73 = .ok (.iinc 10 1, 3) := by decide +kernel
theorem dc_W_addMultiple_76 : decode bc_W_addMultiple 76 = .ok (.goto (-50), 3) := by decide +kernel
theorem dc_W_addMultiple_79 : decode bc_W_addMultiple 79 = .ok (.aload 5, 2) := by decide +kernel
theorem dc_W_addMultiple_81 : decode bc_W_addMultiple 81 = .ok (.iload_n 1, 1) := by decide +kernel
theorem dc_W_addMultiple_82 : decode bc_W_addMultiple 82 = .ok (.iload 7, 2) := by decide +kernel
theorem dc_W_addMultiple_84 : decode bc_W_addMultiple 84 = .ok (.iadd, 1) := by decide +kernel
theorem dc_W_addMultiple_85 : decode bc_W_addMultiple 85 = .ok (.lload 8, 2) := by decide +kernel
theorem dc_W_addMultiple_87 : decode bc_W_addMultiple 87 = .ok (.lastore, 1) := by decide +kernel
theorem dc_W_addMultiple_88 : decode bc_W_addMultiple 88 = .ok (.return_, 1) := by decide +kernel
theorem dc_W_lower_0 : decode bc_W_lower 0 = .ok (.iload_n 2, 1) := by decide +kernel
theorem dc_W_lower_1 : decode bc_W_lower 1 = .ok (.bipush 32, 2) := by decide +kernel
theorem dc_W_lower_3 : decode bc_W_lower 3 = .ok (.idiv, 1) := by decide +kernel
theorem dc_W_lower_4 : decode bc_W_lower 4 = .ok (.istore_n 3, 1) := by decide +kernel
theorem dc_W_lower_5 : decode bc_W_lower 5 = .ok (.iload_n 2, 1) := by decide +kernel
theorem dc_W_lower_6 : decode bc_W_lower 6 = .ok (.bipush 31, 2) := by decide +kernel
theorem dc_W_lower_8 : decode bc_W_lower 8 = .ok (.iand, 1) := by decide +kernel
theorem dc_W_lower_9 : decode bc_W_lower 9 = .ok (.istore 4, 2) := by decide +kernel
theorem dc_W_lower_11 : decode bc_W_lower 11 = .ok (.aload_n 1, 1) := by decide +kernel
theorem dc_W_lower_12 : decode bc_W_lower 12 = .ok (.getfield 15, 3) := by decide +kernel
theorem dc_W_lower_15 : decode bc_W_lower 15 = .ok (.istore 5, 2) := by decide +kernel
theorem dc_W_lower_17 : decode bc_W_lower 17 = .ok (.iconst 0, 1) := by decide +kernel
theorem dc_W_lower_18 : decode bc_W_lower 18 = .ok (.iload 5, 2) := by decide +kernel
theorem dc_W_lower_20 : decode bc_W_lower 20 = .ok (.iload_n 3, 1) := by decide +kernel
theorem dc_W_lower_21 : decode bc_W_lower 21 = .ok (.isub, 1) := by decide +kernel
theorem dc_W_lower_22 : decode bc_W_lower 22 = .ok (.invokestatic 19, 3) := by decide +kernel
theorem dc_W_lower_25 : decode bc_W_lower 25 = .ok (.istore 6, 2) := by decide +kernel
theorem dc_W_lower_27 : decode bc_W_lower 27 = .ok (.aload_n 0, 1) := by decide +kernel
theorem dc_W_lower_28 : decode bc_W_lower 28 = .ok (.iload 6, 2) := by decide +kernel
theorem dc_W_lower_30 : decode bc_W_lower 30 = .ok (.invokevirtual 31, 3) := by decide +kernel
theorem dc_W_lower_33 : decode bc_W_lower 33 = .ok (.iconst 0, 1) := by decide +kernel
theorem dc_W_lower_34 : decode bc_W_lower 34 = .ok (.istore 7, 2) := by decide +kernel
theorem dc_W_lower_36 : decode bc_W_lower 36 = .ok (.iload 7, 2) := by decide +kernel
theorem dc_W_lower_38 : decode bc_W_lower 38 = .ok (.iload 6, 2) := by decide +kernel
theorem dc_W_lower_40 : decode bc_W_lower 40 = .ok (.if_icmp .ge 69, 3) := by decide +kernel
theorem dc_W_lower_43 : decode bc_W_lower 43 = .ok (.iload 7, 2) := by decide +kernel
theorem dc_W_lower_45 : decode bc_W_lower 45 = .ok (.iload_n 3, 1) := by decide +kernel
theorem dc_W_lower_46 : decode bc_W_lower 46 = .ok (.iadd, 1) := by decide +kernel
theorem dc_W_lower_47 : decode bc_W_lower 47 = .ok (.iconst 1, 1) := by decide +kernel
theorem dc_W_lower_48 : decode bc_W_lower 48 = .ok (.iadd, 1) := by decide +kernel
theorem dc_W_lower_49 : decode bc_W_lower 49 = .ok (.iload 5, 2) := by decide +kernel
theorem dc_W_lower_51 : decode bc_W_lower 51 = .ok (.if_icmp .ge 23, 3) := by decide +kernel
theorem dc_W_lower_54 : decode bc_W_lower 54 = .ok (.aload_n 1, 1) := by decide +kernel
theorem dc_W_lower_55 : decode bc_W_lower 55 = .ok (.getfield 11, 3) := by decide +kernel
theorem dc_W_lower_58 : decode bc_W_lower 58 = .ok (.iload 7, 2) := by decide +kernel
theorem dc_W_lower_60 : decode bc_W_lower 60 = .ok (.iload_n 3, 1) := by decide +kernel
theorem dc_W_lower_61 : decode bc_W_lower 61 = .ok (.iadd, 1) := by decide +kernel
theorem dc_W_lower_62 : decode bc_W_lower 62 = .ok (.iconst 1, 1) := by decide +kernel
theorem dc_W_lower_63 : decode bc_W_lower 63 = .ok (.iadd, 1) := by decide +kernel
theorem dc_W_lower_64 : decode bc_W_lower 64 = .ok (.laload, 1) := by decide +kernel
theorem dc_W_lower_65 : decode bc_W_lower 65 = .ok (.bipush 32, 2) := by decide +kernel
theorem dc_W_lower_67 : decode bc_W_lower 67 = .ok (.iload 4, 2) := by decide +kernel
theorem dc_W_lower_69 : decode bc_W_lower 69 = .ok (.isub, 1) := by decide +kernel
theorem dc_W_lower_70 : decode bc_W_lower 70 = .ok (.lshl, 1) := by decide +kernel
theorem dc_W_lower_71 : decode bc_W_lower 71 = .ok (.goto 4, 3) := by decide +kernel
theorem dc_W_lower_74 : decode bc_W_lower 74 = .ok (.lconst 0, 1) := by decide +kernel
theorem dc_W_lower_75 : decode bc_W_lower 75 = .ok (.lstore 8, 2) := by decide +kernel
theorem dc_W_lower_77 : decode bc_W_lower 77 = .ok (.aload_n 0, 1) := by decide +kernel
theorem dc_W_lower_78 : decode bc_W_lower 78 = .ok (.getfield 11, 3) := by decide +kernel
theorem dc_W_lower_81 : decode bc_W_lower 81 = .ok (.iload 7, 2) := by decide +kernel
theorem dc_W_lower_83 : decode bc_W_lower 83 = .ok (.aload_n 1, 1) := by decide +kernel
theorem dc_W_lower_84 : decode bc_W_lower 84 = .ok (.getfield 11, 3) := by decide +kernel
theorem dc_W_lower_87 : decode bc_W_lower 87 = .ok (.iload 7, 2) := by decide +kernel
theorem dc_W_lower_89 : decode bc_W_lower 89 = .ok (.iload_n 3, 1) := by decide +kernel
theorem dc_W_lower_90 : decode bc_W_lower 90 = .ok (.iadd, 1) := by decide +kernel
theorem dc_W_lower_91 : decode bc_W_lower 91 = .ok (.laload, 1) := by decide +kernel
theorem dc_W_lower_92 : decode bc_W_lower 92 = .ok (.iload 4, 2) := by decide +kernel
theorem dc_W_lower_94 : decode bc_W_lower 94 = .ok (.lushr, 1) := by decide +kernel
theorem dc_W_lower_95 : decode bc_W_lower 95 = .ok (.lload 8, 2) := by decide +kernel
theorem dc_W_lower_97 : decode bc_W_lower 97 = .ok (.lor, 1) := by decide +kernel
theorem dc_W_lower_98 : decode bc_W_lower 98 = .ok (.ldc2_w 35, 3) := by decide +kernel
theorem dc_W_lower_101 : decode bc_W_lower 101 = .ok (.land, 1) := by decide +kernel
theorem dc_W_lower_102 : decode bc_W_lower 102 = .ok (.lastore, 1) := by decide +kernel
theorem dc_W_lower_103 : decode bc_W_lower 103 = .ok (.iinc 7 1, 3) := by decide +kernel
theorem dc_W_lower_106 : decode bc_W_lower 106 = .ok (.goto (-70), 3) := by decide +kernel
theorem dc_W_lower_109 : decode bc_W_lower 109 = .ok (.aload_n 0, 1) := by decide +kernel
theorem dc_W_lower_110 : decode bc_W_lower 110 = .ok (.iload 6, 2) := by decide +kernel
theorem dc_W_lower_112 : decode bc_W_lower 112 = .ok (.invokevirtual 37, 3) := by decide +kernel
theorem dc_W_lower_115 : decode bc_W_lower 115 = .ok (.return_, 1) := by decide +kernel
theorem dc_W_firstDigit_0 : decode bc_W_firstDigit 0 = .ok (.iconst 0, 1) := by decide +kernel
theorem dc_W_firstDigit_1 : decode bc_W_firstDigit 1 = .ok (.istore_n 1, 1) := by decide +kernel
theorem dc_W_firstDigit_2 : decode bc_W_firstDigit 2 = .ok (.iload_n 1, 1) := by decide +kernel
theorem dc_W_firstDigit_3 : decode bc_W_firstDigit 3 = .ok (.aload_n 0, 1) := by decide +kernel
theorem dc_W_firstDigit_4 : decode bc_W_firstDigit 4 = .ok (.getfield 15, 3) := by decide +kernel
theorem dc_W_firstDigit_7 : decode bc_W_firstDigit 7 = .ok (.if_icmp .ge 22, 3) := by decide +kernel
theorem dc_W_firstDigit_10 : decode bc_W_firstDigit 10 = .ok (.aload_n 0, 1) := by decide +kernel
theorem dc_W_firstDigit_11 : decode bc_W_firstDigit 11 = .ok (.getfield 11, 3) := by decide +kernel
theorem dc_W_firstDigit_14 : decode bc_W_firstDigit 14 = .ok (.iload_n 1, 1) := by decide +kernel
theorem dc_W_firstDigit_15 : decode bc_W_firstDigit 15 = .ok (.laload, 1) := by decide +kernel
theorem dc_W_firstDigit_16 : decode bc_W_firstDigit 16 = .ok (.lconst 0, 1) := by decide +kernel
theorem dc_W_firstDigit_17 : decode bc_W_firstDigit 17 = .ok (.lcmp, 1) := by decide +kernel
theorem dc_W_firstDigit_18 : decode bc_W_firstDigit 18 = .ok (.ifCond .eq 5, 3) := by decide +kernel
theorem dc_W_firstDigit_21 : decode bc_W_firstDigit 21 = .ok (.iload_n 1, 1) := by decide +kernel
theorem dc_W_firstDigit_22 : decode bc_W_firstDigit 22 = .ok (.ireturn, 1) := by decide +kernel
theorem dc_W_firstDigit_23 : decode bc_W_firstDigit 23 = .ok (.iinc 1 1, 3) := by decide +kernel
theorem dc_W_firstDigit_26 : decode bc_W_firstDigit 26 = .ok (.goto (-24), 3) := by decide +kernel
theorem dc_W_firstDigit_29 : decode bc_W_firstDigit 29 = .ok (.iconst 0, 1) := by decide +kernel
theorem dc_W_firstDigit_30 : decode bc_W_firstDigit 30 = .ok (.ireturn, 1) := by decide +kernel
theorem dc_W_digitAt_0 : decode bc_W_digitAt 0 = .ok (.iload_n 1, 1) := by decide +kernel
theorem dc_W_digitAt_1 : decode bc_W_digitAt 1 = .ok (.ifCond .lt 20, 3) := by decide +kernel
theorem dc_W_digitAt_4 : decode bc_W_digitAt 4 = .ok (.iload_n 1, 1) := by decide +kernel
theorem dc_W_digitAt_5 : decode bc_W_digitAt 5 = .ok (.aload_n 0, 1) := by decide +kernel
theorem dc_W_digitAt_6 : decode bc_W_digitAt 6 = .ok (.getfield 15, 3) := by decide +kernel
theorem dc_W_digitAt_9 : decode bc_W_digitAt 9 = .ok (.if_icmp .ge 12, 3) := by decide +kernel
theorem dc_W_digitAt_12 : decode bc_W_digitAt 12 = .ok (.aload_n 0, 1) := by decide +kernel
theorem dc_W_digitAt_13 : decode bc_W_digitAt 13 = .ok (.getfield 11, 3) := by decide +kernel
theorem dc_W_digitAt_16 : decode bc_W_digitAt 16 = .ok (.iload_n 1, 1) := by decide +kernel
theorem dc_W_digitAt_17 : decode bc_W_digitAt 17 = .ok (.laload, 1) := by decide +kernel
theorem dc_W_digitAt_18 : decode bc_W_digitAt 18 = .ok (.goto 4, 3) := by decide +kernel
theorem dc_W_digitAt_21 : decode bc_W_digitAt 21 = .ok (.lconst 0, 1) := by decide +kernel
theorem dc_W_digitAt_22 : decode bc_W_digitAt 22 = .ok (.lreturn, 1) := by decide +kernel
theorem dc_W_turnOver_0 : decode bc_W_turnOver 0 = .ok (.lconst 1, 1) := by decide +kernel
theorem dc_W_turnOver_1 : decode bc_W_turnOver 1 = .ok (.lstore_n 2, 1) := by decide +kernel
theorem dc_W_turnOver_2 : decode bc_W_turnOver 2 = .ok (.iconst 0, 1) := by decide +kernel
theorem dc_W_turnOver_3 : decode bc_W_turnOver 3 = .ok (.istore 4, 2) := by decide +kernel
theorem dc_W_turnOver_5 : decode bc_W_turnOver 5 = .ok (.iload 4, 2) := by decide +kernel
theorem dc_W_turnOver_7 : decode bc_W_turnOver 7 = .ok (.iload_n 1, 1) := by decide +kernel
theorem dc_W_turnOver_8 : decode bc_W_turnOver 8 = .ok (.if_icmp .ge 47, 3) := by decide +kernel
theorem dc_W_turnOver_11 : decode bc_W_turnOver 11 = .ok (.aload_n 0, 1) := by decide +kernel
theorem dc_W_turnOver_12 : decode bc_W_turnOver 12 = .ok (.getfield 11, 3) := by decide +kernel
theorem dc_W_turnOver_15 : decode bc_W_turnOver 15 = .ok (.iload 4, 2) := by decide +kernel
theorem dc_W_turnOver_17 : decode bc_W_turnOver 17 = .ok (.laload, 1) := by decide +kernel
theorem dc_W_turnOver_18 : decode bc_W_turnOver 18 = .ok (.ldc2_w 76, 3) := by decide +kernel
theorem dc_W_turnOver_21 : decode bc_W_turnOver 21 = .ok (.lxor, 1) := by decide +kernel
theorem dc_W_turnOver_22 : decode bc_W_turnOver 22 = .ok (.ldc2_w 35, 3) := by decide +kernel
theorem dc_W_turnOver_25 : decode bc_W_turnOver 25 = .ok (.land, 1) := by decide +kernel
theorem dc_W_turnOver_26 : decode bc_W_turnOver 26 = .ok (.lload_n 2, 1) := by decide +kernel
theorem dc_W_turnOver_27 : decode bc_W_turnOver 27 = .ok (.ladd, 1) := by decide +kernel
theorem dc_W_turnOver_28 : decode bc_W_turnOver 28 = .ok (.lstore 5, 2) := by decide +kernel
theorem dc_W_turnOver_30 : decode bc_W_turnOver 30 = .ok (.aload_n 0, 1) := by decide +kernel
theorem dc_W_turnOver_31 : decode bc_W_turnOver 31 = .ok (.getfield 11, 3) := by decide +kernel
theorem dc_W_turnOver_34 : decode bc_W_turnOver 34 = .ok (.iload 4, 2) := by decide +kernel
theorem dc_W_turnOver_36 : decode bc_W_turnOver 36 = .ok (.lload 5, 2) := by decide +kernel
theorem dc_W_turnOver_38 : decode bc_W_turnOver 38 = .ok (.ldc2_w 35, 3) := by decide +kernel
theorem dc_W_turnOver_41 : decode bc_W_turnOver 41 = .ok (.land, 1) := by decide +kernel
theorem dc_W_turnOver_42 : decode bc_W_turnOver 42 = .ok (.lastore, 1) := by decide +kernel
theorem dc_W_turnOver_43 : decode bc_W_turnOver 43 = .ok (.lload 5, 2) := by decide +kernel
theorem dc_W_turnOver_45 : decode bc_W_turnOver 45 = .ok (.bipush 32, 2) := by decide +kernel
theorem dc_W_turnOver_47 : decode bc_W_turnOver 47 = .ok (.lushr, 1) := by decide +kernel
theorem dc_W_turnOver_48 : decode bc_W_turnOver 48 = .ok (.lstore_n 2, 1) := by decide +kernel
theorem dc_W_turnOver_49 : decode bc_W_turnOver 49 = .ok (.iinc 4 1, 3) := by decide +kernel
theorem dc_W_turnOver_52 : decode bc_W_turnOver 52 = .ok (.goto (-47), 3) := by decide +kernel
theorem dc_W_turnOver_55 : decode bc_W_turnOver 55 = .ok (.aload_n 0, 1) := by decide +kernel
theorem dc_W_turnOver_56 : decode bc_W_turnOver 56 = .ok (.iload_n 1, 1) := by decide +kernel
theorem dc_W_turnOver_57 : decode bc_W_turnOver 57 = .ok (.invokevirtual 37, 3) := by decide +kernel
theorem dc_W_turnOver_60 : decode bc_W_turnOver 60 = .ok (.return_, 1) := by decide +kernel
theorem dc_W_lowestOne_0 : decode bc_W_lowestOne 0 = .ok (.aload_n 0, 1) := by decide +kernel
theorem dc_W_lowestOne_1 : decode bc_W_lowestOne 1 = .ok (.getfield 15, 3) := by decide +kernel
theorem dc_W_lowestOne_4 : decode bc_W_lowestOne 4 = .ok (.ifCond .ne 5, 3) := by decide +kernel
theorem dc_W_lowestOne_7 : decode bc_W_lowestOne 7 = .ok (.iconst (-1), 1) := by decide +kernel
theorem dc_W_lowestOne_8 : decode bc_W_lowestOne 8 = .ok (.ireturn, 1) := by decide +kernel
theorem dc_W_lowestOne_9 : decode bc_W_lowestOne 9 = .ok (.aload_n 0, 1) := by decide +kernel
theorem dc_W_lowestOne_10 : decode bc_W_lowestOne 10 = .ok (.invokevirtual 56, 3) := by decide +kernel
theorem dc_W_lowestOne_13 : decode bc_W_lowestOne 13 = .ok (.istore_n 1, 1) := by decide +kernel
theorem dc_W_lowestOne_14 : decode bc_W_lowestOne 14 = .ok (.bipush 32, 2) := by decide +kernel
theorem dc_W_lowestOne_16 : decode bc_W_lowestOne 16 = .ok (.iload_n 1, 1) := by decide +kernel
theorem dc_W_lowestOne_17 : decode bc_W_lowestOne 17 = .ok (.imul, 1) := by decide +kernel
theorem dc_W_lowestOne_18 : decode bc_W_lowestOne 18 = .ok (.aload_n 0, 1) := by decide +kernel
theorem dc_W_lowestOne_19 : decode bc_W_lowestOne 19 = .ok (.getfield 11, 3) := by decide +kernel
theorem dc_W_lowestOne_22 : decode bc_W_lowestOne 22 = .ok (.iload_n 1, 1) := by decide +kernel
theorem dc_W_lowestOne_23 : decode bc_W_lowestOne 23 = .ok (.laload, 1) := by decide +kernel
theorem dc_W_lowestOne_24 : decode bc_W_lowestOne 24 = .ok (.invokestatic 60, 3) := by decide +kernel
theorem dc_W_lowestOne_27 : decode bc_W_lowestOne 27 = .ok (.iadd, 1) := by decide +kernel
theorem dc_W_lowestOne_28 : decode bc_W_lowestOne 28 = .ok (.ireturn, 1) := by decide +kernel
theorem dc_W_bitsFrom_0 : decode bc_W_bitsFrom 0 = .ok (.iload_n 1, 1) := by decide +kernel
theorem dc_W_bitsFrom_1 : decode bc_W_bitsFrom 1 = .ok (.bipush 32, 2) := by decide +kernel
theorem dc_W_bitsFrom_3 : decode bc_W_bitsFrom 3 = .ok (.idiv, 1) := by decide +kernel
theorem dc_W_bitsFrom_4 : decode bc_W_bitsFrom 4 = .ok (.istore_n 2, 1) := by decide +kernel
theorem dc_W_bitsFrom_5 : decode bc_W_bitsFrom 5 = .ok (.iload_n 1, 1) := by decide +kernel
theorem dc_W_bitsFrom_6 : decode bc_W_bitsFrom 6 = .ok (.bipush 31, 2) := by decide +kernel
theorem dc_W_bitsFrom_8 : decode bc_W_bitsFrom 8 = .ok (.iand, 1) := by decide +kernel
theorem dc_W_bitsFrom_9 : decode bc_W_bitsFrom 9 = .ok (.istore_n 3, 1) := by decide +kernel
theorem dc_W_bitsFrom_10 : decode bc_W_bitsFrom 10 = .ok (.aload_n 0, 1) := by decide +kernel
theorem dc_W_bitsFrom_11 : decode bc_W_bitsFrom 11 = .ok (.iload_n 2, 1) := by decide +kernel
theorem dc_W_bitsFrom_12 : decode bc_W_bitsFrom 12 = .ok (.invokevirtual 46, 3) := by decide +kernel
theorem dc_W_bitsFrom_15 : decode bc_W_bitsFrom 15 = .ok (.iload_n 3, 1) := by decide +kernel
theorem dc_W_bitsFrom_16 : decode bc_W_bitsFrom 16 = .ok (.lushr, 1) := by decide +kernel
theorem dc_W_bitsFrom_17 : decode bc_W_bitsFrom 17 = .ok (.aload_n 0, 1) := by decide +kernel
theorem dc_W_bitsFrom_18 : decode bc_W_bitsFrom 18 = .ok (.iload_n 2, 1) := by decide +kernel
theorem dc_W_bitsFrom_19 : decode bc_W_bitsFrom 19 = .ok (.iconst 1, 1) := by decide +kernel
theorem dc_W_bitsFrom_20 : decode bc_W_bitsFrom 20 = .ok (.iadd, 1) := by decide +kernel
theorem dc_W_bitsFrom_21 : decode bc_W_bitsFrom 21 = .ok (.invokevirtual 46, 3) := by decide +kernel
theorem dc_W_bitsFrom_24 : decode bc_W_bitsFrom 24 = .ok (.bipush 32, 2) := by decide +kernel
theorem dc_W_bitsFrom_26 : decode bc_W_bitsFrom 26 = .ok (.iload_n 3, 1) := by decide +kernel
theorem dc_W_bitsFrom_27 : decode bc_W_bitsFrom 27 = .ok (.isub, 1) := by decide +kernel
theorem dc_W_bitsFrom_28 : decode bc_W_bitsFrom 28 = .ok (.lshl, 1) := by decide +kernel
theorem dc_W_bitsFrom_29 : decode bc_W_bitsFrom 29 = .ok (.lor, 1) := by decide +kernel
theorem dc_W_bitsFrom_30 : decode bc_W_bitsFrom 30 = .ok (.lstore 4, 2) := by decide +kernel
theorem dc_W_bitsFrom_32 : decode bc_W_bitsFrom 32 = .ok (.iload_n 3, 1) := by decide +kernel
theorem dc_W_bitsFrom_33 : decode bc_W_bitsFrom 33 = .ok (.ifCond .ne 8, 3) := by decide +kernel
theorem dc_W_bitsFrom_36 : decode bc_W_bitsFrom 36 = .ok (.lload 4, 2) := by decide +kernel
theorem dc_W_bitsFrom_38 : decode bc_W_bitsFrom 38 = .ok (.goto 18, 3) := by decide +kernel
theorem dc_W_bitsFrom_41 : decode bc_W_bitsFrom 41 = .ok (.lload 4, 2) := by decide +kernel
theorem dc_W_bitsFrom_43 : decode bc_W_bitsFrom 43 = .ok (.aload_n 0, 1) := by decide +kernel
theorem dc_W_bitsFrom_44 : decode bc_W_bitsFrom 44 = .ok (.iload_n 2, 1) := by decide +kernel
theorem dc_W_bitsFrom_45 : decode bc_W_bitsFrom 45 = .ok (.iconst 2, 1) := by decide +kernel
theorem dc_W_bitsFrom_46 : decode bc_W_bitsFrom 46 = .ok (.iadd, 1) := by decide +kernel
theorem dc_W_bitsFrom_47 : decode bc_W_bitsFrom 47 = .ok (.invokevirtual 46, 3) := by decide +kernel
theorem dc_W_bitsFrom_50 : decode bc_W_bitsFrom 50 = .ok (.bipush 64, 2) := by decide +kernel
theorem dc_W_bitsFrom_52 : decode bc_W_bitsFrom 52 = .ok (.iload_n 3, 1) := by decide +kernel
theorem dc_W_bitsFrom_53 : decode bc_W_bitsFrom 53 = .ok (.isub, 1) := by decide +kernel
theorem dc_W_bitsFrom_54 : decode bc_W_bitsFrom 54 = .ok (.lshl, 1) := by decide +kernel
theorem dc_W_bitsFrom_55 : decode bc_W_bitsFrom 55 = .ok (.lor, 1) := by decide +kernel
theorem dc_W_bitsFrom_56 : decode bc_W_bitsFrom 56 = .ok (.lreturn, 1) := by decide +kernel
theorem dc_W_isOne_0 : decode bc_W_isOne 0 = .ok (.aload_n 0, 1) := by decide +kernel
theorem dc_W_isOne_1 : decode bc_W_isOne 1 = .ok (.iload_n 1, 1) := by decide +kernel
theorem dc_W_isOne_2 : decode bc_W_isOne 2 = .ok (.bipush 32, 2) := by decide +kernel
theorem dc_W_isOne_4 : decode bc_W_isOne 4 = .ok (.idiv, 1) := by decide +kernel
theorem dc_W_isOne_5 : decode bc_W_isOne 5 = .ok (.invokevirtual 46, 3) := by decide +kernel
theorem dc_W_isOne_8 : decode bc_W_isOne 8 = .ok (.iload_n 1, 1) := by decide +kernel
theorem dc_W_isOne_9 : decode bc_W_isOne 9 = .ok (.bipush 31, 2) := by decide +kernel
theorem dc_W_isOne_11 : decode bc_W_isOne 11 = .ok (.iand, 1) := by decide +kernel
theorem dc_W_isOne_12 : decode bc_W_isOne 12 = .ok (.lushr, 1) := by decide +kernel
theorem dc_W_isOne_13 : decode bc_W_isOne 13 = .ok (.lconst 1, 1) := by decide +kernel
theorem dc_W_isOne_14 : decode bc_W_isOne 14 = .ok (.land, 1) := by decide +kernel
theorem dc_W_isOne_15 : decode bc_W_isOne 15 = .ok (.lconst 0, 1) := by decide +kernel
theorem dc_W_isOne_16 : decode bc_W_isOne 16 = .ok (.lcmp, 1) := by decide +kernel
theorem dc_W_isOne_17 : decode bc_W_isOne 17 = .ok (.ifCond .eq 7, 3) := by decide +kernel
theorem dc_W_isOne_20 : decode bc_W_isOne 20 = .ok (.iconst 1, 1) := by decide +kernel
theorem dc_W_isOne_21 : decode bc_W_isOne 21 = .ok (.goto 4, 3) := by decide +kernel
theorem dc_W_isOne_24 : decode bc_W_isOne 24 = .ok (.iconst 0, 1) := by decide +kernel
theorem dc_W_isOne_25 : decode bc_W_isOne 25 = .ok (.ireturn, 1) := by decide +kernel
theorem dc_W_countOnes_0 : decode bc_W_countOnes 0 = .ok (.iconst 0, 1) := by decide +kernel
theorem dc_W_countOnes_1 : decode bc_W_countOnes 1 = .ok (.istore_n 1, 1) := by decide +kernel
theorem dc_W_countOnes_2 : decode bc_W_countOnes 2 = .ok (.iconst 0, 1) := by decide +kernel
theorem dc_W_countOnes_3 : decode bc_W_countOnes 3 = .ok (.istore_n 2, 1) := by decide +kernel
theorem dc_W_countOnes_4 : decode bc_W_countOnes 4 = .ok (.iload_n 2, 1) := by decide +kernel
theorem dc_W_countOnes_5 : decode bc_W_countOnes 5 = .ok (.aload_n 0, 1) := by decide +kernel
theorem dc_W_countOnes_6 : decode bc_W_countOnes 6 = .ok (.getfield 15, 3) := by decide +kernel
theorem dc_W_countOnes_9 : decode bc_W_countOnes 9 = .ok (.if_icmp .ge 21, 3) := by decide +kernel
theorem dc_W_countOnes_12 : decode bc_W_countOnes 12 = .ok (.iload_n 1, 1) := by decide +kernel
theorem dc_W_countOnes_13 : decode bc_W_countOnes 13 = .ok (.aload_n 0, 1) := by decide +kernel
theorem dc_W_countOnes_14 : decode bc_W_countOnes 14 = .ok (.getfield 11, 3) := by decide +kernel
theorem dc_W_countOnes_17 : decode bc_W_countOnes 17 = .ok (.iload_n 2, 1) := by decide +kernel
theorem dc_W_countOnes_18 : decode bc_W_countOnes 18 = .ok (.laload, 1) := by decide +kernel
theorem dc_W_countOnes_19 : decode bc_W_countOnes 19 = .ok (.invokestatic 63, 3) := by decide +kernel
theorem dc_W_countOnes_22 : decode bc_W_countOnes 22 = .ok (.iadd, 1) := by decide +kernel
theorem dc_W_countOnes_23 : decode bc_W_countOnes 23 = .ok (.istore_n 1, 1) := by decide +kernel
theorem dc_W_countOnes_24 : decode bc_W_countOnes 24 = .ok (.iinc 2 1, 3) := by decide +kernel
theorem dc_W_countOnes_27 : decode bc_W_countOnes 27 = .ok (.goto (-23), 3) := by decide +kernel
theorem dc_W_countOnes_30 : decode bc_W_countOnes 30 = .ok (.iload_n 1, 1) := by decide +kernel
theorem dc_W_countOnes_31 : decode bc_W_countOnes 31 = .ok (.ireturn, 1) := by decide +kernel
