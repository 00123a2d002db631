theorem dX4_init_0 : decode cX4_init 0 = .ok (.aload_n 0, 1) := by decide +kernel
theorem dX4_init_1 : decode cX4_init 1 = .ok (.invokespecial 1, 3) := by decide +kernel
theorem dX4_init_4 : decode cX4_init 4 = .ok (.aload_n 0, 1) := by decide +kernel
theorem dX4_init_5 : decode cX4_init 5 = .ok (.sipush 150, 3) := by decide +kernel
theorem dX4_init_8 : decode cX4_init 8 = .ok (.newarray .byte, 2) := by decide +kernel
theorem dX4_init_10 : decode cX4_init 10 = .ok (.putfield 7, 3) := by decide +kernel
theorem dX4_init_13 : decode cX4_init 13 = .ok (.aload_n 0, 1) := by decide +kernel
theorem dX4_init_14 : decode cX4_init 14 = .ok (.iconst 2, 1) := by decide +kernel
theorem dX4_init_15 : decode cX4_init 15 = .ok (.newarray .int, 2) := by decide +kernel
theorem dX4_init_17 : decode cX4_init 17 = .ok (.putfield 13, 3) := by decide +kernel
theorem dX4_init_20 : decode cX4_init 20 = .ok (.aload_n 0, 1) := by decide +kernel
theorem dX4_init_21 : decode cX4_init 21 = .ok (.bipush 6, 2) := by decide +kernel
theorem dX4_init_23 : decode cX4_init 23 = .ok (.newarray .int, 2) := by decide +kernel
theorem dX4_init_25 : decode cX4_init 25 = .ok (.putfield 17, 3) := by decide +kernel
theorem dX4_init_28 : decode cX4_init 28 = .ok (.aload_n 0, 1) := by decide +kernel
theorem dX4_init_29 : decode cX4_init 29 = .ok (.bipush 6, 2) := by decide +kernel
theorem dX4_init_31 : decode cX4_init 31 = .ok (.newarray .int, 2) := by decide +kernel
theorem dX4_init_33 : decode cX4_init 33 = .ok (.putfield 20, 3) := by decide +kernel
theorem dX4_init_36 : decode cX4_init 36 = .ok (.aload_n 0, 1) := by decide +kernel
theorem dX4_init_37 : decode cX4_init 37 = .ok (.bipush 12, 2) := by decide +kernel
theorem dX4_init_39 : decode cX4_init 39 = .ok (.newarray .int, 2) := by decide +kernel
theorem dX4_init_41 : decode cX4_init 41 = .ok (.putfield 23, 3) := by decide +kernel
theorem dX4_init_44 : decode cX4_init 44 = .ok (.aload_n 0, 1) := by decide +kernel
theorem dX4_init_45 : decode cX4_init 45 = .ok (.iconst 2, 1) := by decide +kernel
theorem dX4_init_46 : decode cX4_init 46 = .ok (.newarray .int, 2) := by decide +kernel
theorem dX4_init_48 : decode cX4_init 48 = .ok (.putfield 26, 3) := by decide +kernel
theorem dX4_init_51 : decode cX4_init 51 = .ok (.aload_n 0, 1) := by decide +kernel
theorem dX4_init_52 : decode cX4_init 52 = .ok (.bipush 10, 2) := by decide +kernel
theorem dX4_init_54 : decode cX4_init 54 = .ok (.newarray .int, 2) := by decide +kernel
theorem dX4_init_56 : decode cX4_init 56 = .ok (.putfield 29, 3) := by decide +kernel
theorem dX4_init_59 : decode cX4_init 59 = .ok (.aload_n 0, 1) := by decide +kernel
theorem dX4_init_60 : decode cX4_init 60 = .ok (.bipush 60, 2) := by decide +kernel
theorem dX4_init_62 : decode cX4_init 62 = .ok (.newarray .int, 2) := by decide +kernel
theorem dX4_init_64 : decode cX4_init 64 = .ok (.putfield 32, 3) := by decide +kernel
theorem dX4_init_67 : decode cX4_init 67 = .ok (.aload_n 0, 1) := by decide +kernel
theorem dX4_init_68 : decode cX4_init 68 = .ok (.sipush 729, 3) := by decide +kernel
theorem dX4_init_71 : decode cX4_init 71 = .ok (.newarray .int, 2) := by decide +kernel
theorem dX4_init_73 : decode cX4_init 73 = .ok (.putfield 35, 3) := by decide +kernel
theorem dX4_init_76 : decode cX4_init 76 = .ok (.aload_n 0, 1) := by decide +kernel
theorem dX4_init_77 : decode cX4_init 77 = .ok (.iconst 2, 1) := by decide +kernel
theorem dX4_init_78 : decode cX4_init 78 = .ok (.newarray .boolean, 2) := by decide +kernel
theorem dX4_init_80 : decode cX4_init 80 = .ok (.putfield 38, 3) := by decide +kernel
theorem dX4_init_83 : decode cX4_init 83 = .ok (.aload_n 0, 1) := by decide +kernel
theorem dX4_init_84 : decode cX4_init 84 = .ok (.bipush 6, 2) := by decide +kernel
theorem dX4_init_86 : decode cX4_init 86 = .ok (.newarray .int, 2) := by decide +kernel
theorem dX4_init_88 : decode cX4_init 88 = .ok (.putfield 42, 3) := by decide +kernel
theorem dX4_init_91 : decode cX4_init 91 = .ok (.aload_n 0, 1) := by decide +kernel
theorem dX4_init_92 : decode cX4_init 92 = .ok (.bipush 6, 2) := by decide +kernel
theorem dX4_init_94 : decode cX4_init 94 = .ok (.newarray .int, 2) := by decide +kernel
theorem dX4_init_96 : decode cX4_init 96 = .ok (.putfield 45, 3) := by decide +kernel
theorem dX4_init_99 : decode cX4_init 99 = .ok (.aload_n 0, 1) := by decide +kernel
theorem dX4_init_100 : decode cX4_init 100 = .ok (.bipush 6, 2) := by decide +kernel
theorem dX4_init_102 : decode cX4_init 102 = .ok (.newarray .int, 2) := by decide +kernel
theorem dX4_init_104 : decode cX4_init 104 = .ok (.putfield 48, 3) := by decide +kernel
theorem dX4_init_107 : decode cX4_init 107 = .ok (.aload_n 0, 1) := by decide +kernel
theorem dX4_init_108 : decode cX4_init 108 = .ok (.invokevirtual 51, 3) := by decide +kernel
theorem dX4_init_111 : decode cX4_init 111 = .ok (.aload_n 0, 1) := by decide +kernel
theorem dX4_init_112 : decode cX4_init 112 = .ok (.invokevirtual 54, 3) := by decide +kernel
theorem dX4_init_115 : decode cX4_init 115 = .ok (.return_, 1) := by decide +kernel
theorem dX4_in_0 : decode cX4_in 0 = .ok (.iload_n 0, 1) := by decide +kernel
theorem dX4_in_1 : decode cX4_in 1 = .ok (.iload_n 1, 1) := by decide +kernel
theorem dX4_in_2 : decode cX4_in 2 = .ok (.if_icmp .lt 12, 3) := by decide +kernel
theorem dX4_in_5 : decode cX4_in 5 = .ok (.iload_n 0, 1) := by decide +kernel
theorem dX4_in_6 : decode cX4_in 6 = .ok (.iload_n 2, 1) := by decide +kernel
theorem dX4_in_7 : decode cX4_in 7 = .ok (.if_icmp .gt 7, 3) := by decide +kernel
theorem dX4_in_10 : decode cX4_in 10 = .ok (.iconst 1, 1) := by decide +kernel
theorem dX4_in_11 : decode cX4_in 11 = .ok (.goto 4, 3) := by decide +kernel
theorem dX4_in_14 : decode cX4_in 14 = .ok (.iconst 0, 1) := by decide +kernel
theorem dX4_in_15 : decode cX4_in 15 = .ok (.ireturn, 1) := by decide +kernel
theorem dX4_type_0 : decode cX4_type 0 = .ok (.iload_n 1, 1) := by decide +kernel
theorem dX4_type_1 : decode cX4_type 1 = .ok (.iconst 0, 1) := by decide +kernel
theorem dX4_type_2 : decode cX4_type 2 = .ok (.sipush 255, 3) := by decide +kernel
theorem dX4_type_5 : decode cX4_type 5 = .ok (.invokestatic 57, 3) := by decide +kernel
theorem dX4_type_8 : decode cX4_type 8 = .ok (.ifCond .ne 5, 3) := by decide +kernel
theorem dX4_type_11 : decode cX4_type 11 = .ok (.iconst (-1), 1) := by decide +kernel
theorem dX4_type_12 : decode cX4_type 12 = .ok (.ireturn, 1) := by decide +kernel
theorem dX4_type_13 : decode cX4_type 13 = .ok (.aload_n 0, 1) := by decide +kernel
theorem dX4_type_14 : decode cX4_type 14 = .ok (.getfield 61, 3) := by decide +kernel
theorem dX4_type_17 : decode cX4_type 17 = .ok (.sipush 150, 3) := by decide +kernel
theorem dX4_type_20 : decode cX4_type 20 = .ok (.if_icmp .ne 6, 3) := by decide +kernel
theorem dX4_type_23 : decode cX4_type 23 = .ok (.bipush (-3), 2) := by decide +kernel
theorem dX4_type_25 : decode cX4_type 25 = .ok (.ireturn, 1) := by decide +kernel
theorem dX4_type_26 : decode cX4_type 26 = .ok (.aload_n 0, 1) := by decide +kernel
theorem dX4_type_27 : decode cX4_type 27 = .ok (.getfield 7, 3) := by decide +kernel
theorem dX4_type_30 : decode cX4_type 30 = .ok (.aload_n 0, 1) := by decide +kernel
theorem dX4_type_31 : decode cX4_type 31 = .ok (.getfield 61, 3) := by decide +kernel
theorem dX4_type_34 : decode cX4_type 34 = .ok (.iload_n 1, 1) := by decide +kernel
theorem dX4_type_35 : decode cX4_type 35 = .ok (.i2b, 1) := by decide +kernel
theorem dX4_type_36 : decode cX4_type 36 = .ok (.bastore, 1) := by decide +kernel
theorem dX4_type_37 : decode cX4_type 37 = .ok (.aload_n 0, 1) := by decide +kernel
theorem dX4_type_38 : decode cX4_type 38 = .ok (.dup, 1) := by decide +kernel
theorem dX4_type_39 : decode cX4_type 39 = .ok (.getfield 61, 3) := by decide +kernel
theorem dX4_type_42 : decode cX4_type 42 = .ok (.iconst 1, 1) := by decide +kernel
theorem dX4_type_43 : decode cX4_type 43 = .ok (.iadd, 1) := by decide +kernel
theorem dX4_type_44 : decode cX4_type 44 = .ok (.putfield 61, 3) := by decide +kernel
theorem dX4_type_47 : decode cX4_type 47 = .ok (.aload_n 0, 1) := by decide +kernel
theorem dX4_type_48 : decode cX4_type 48 = .ok (.getfield 61, 3) := by decide +kernel
theorem dX4_type_51 : decode cX4_type 51 = .ok (.ireturn, 1) := by decide +kernel
theorem dX4_clear_0 : decode cX4_clear 0 = .ok (.aload_n 0, 1) := by decide +kernel
theorem dX4_clear_1 : decode cX4_clear 1 = .ok (.getfield 61, 3) := by decide +kernel
theorem dX4_clear_4 : decode cX4_clear 4 = .ok (.istore_n 1, 1) := by decide +kernel
theorem dX4_clear_5 : decode cX4_clear 5 = .ok (.aload_n 0, 1) := by decide +kernel
theorem dX4_clear_6 : decode cX4_clear 6 = .ok (.iconst 0, 1) := by decide +kernel
theorem dX4_clear_7 : decode cX4_clear 7 = .ok (.putfield 61, 3) := by decide +kernel
theorem dX4_clear_10 : decode cX4_clear 10 = .ok (.iload_n 1, 1) := by decide +kernel
theorem dX4_clear_11 : decode cX4_clear 11 = .ok (.ireturn, 1) := by decide +kernel
theorem dX4_here_0 : decode cX4_here 0 = .ok (.aload_n 0, 1) := by decide +kernel
theorem dX4_here_1 : decode cX4_here 1 = .ok (.getfield 65, 3) := by decide +kernel
theorem dX4_here_4 : decode cX4_here 4 = .ok (.aload_n 0, 1) := by decide +kernel
theorem dX4_here_5 : decode cX4_here 5 = .ok (.getfield 61, 3) := by decide +kernel
theorem dX4_here_8 : decode cX4_here 8 = .ok (.if_icmp .ge 19, 3) := by decide +kernel
theorem dX4_here_11 : decode cX4_here 11 = .ok (.aload_n 0, 1) := by decide +kernel
theorem dX4_here_12 : decode cX4_here 12 = .ok (.getfield 7, 3) := by decide +kernel
theorem dX4_here_15 : decode cX4_here 15 = .ok (.aload_n 0, 1) := by decide +kernel
theorem dX4_here_16 : decode cX4_here 16 = .ok (.getfield 65, 3) := by decide +kernel
theorem dX4_here_19 : decode cX4_here 19 = .ok (.baload, 1) := by decide +kernel
theorem dX4_here_20 : decode cX4_here 20 = .ok (.sipush 255, 3) := by decide +kernel
theorem dX4_here_23 : decode cX4_here 23 = .ok (.iand, 1) := by decide +kernel
theorem dX4_here_24 : decode cX4_here 24 = .ok (.goto 4, 3) := by decide +kernel
theorem dX4_here_27 : decode cX4_here 27 = .ok (.iconst (-1), 1) := by decide +kernel
theorem dX4_here_28 : decode cX4_here 28 = .ok (.ireturn, 1) := by decide +kernel
theorem dX4_step_0 : decode cX4_step 0 = .ok (.aload_n 0, 1) := by decide +kernel
theorem dX4_step_1 : decode cX4_step 1 = .ok (.invokevirtual 68, 3) := by decide +kernel
theorem dX4_step_4 : decode cX4_step 4 = .ok (.bipush 32, 2) := by decide +kernel
theorem dX4_step_6 : decode cX4_step 6 = .ok (.if_icmp .ne 16, 3) := by decide +kernel
theorem dX4_step_9 : decode cX4_step 9 = .ok (.aload_n 0, 1) := by decide +kernel
theorem dX4_step_10 : decode cX4_step 10 = .ok (.dup, 1) := by decide +kernel
theorem dX4_step_11 : decode cX4_step 11 = .ok (.getfield 65, 3) := by decide +kernel
theorem dX4_step_14 : decode cX4_step 14 = .ok (.iconst 1, 1) := by decide +kernel
theorem dX4_step_15 : decode cX4_step 15 = .ok (.iadd, 1) := by decide +kernel
theorem dX4_step_16 : decode cX4_step 16 = .ok (.putfield 65, 3) := by decide +kernel
theorem dX4_step_19 : decode cX4_step 19 = .ok (.goto (-19), 3) := by decide +kernel
theorem dX4_step_22 : decode cX4_step 22 = .ok (.aload_n 0, 1) := by decide +kernel
theorem dX4_step_23 : decode cX4_step 23 = .ok (.aload_n 0, 1) := by decide +kernel
theorem dX4_step_24 : decode cX4_step 24 = .ok (.getfield 65, 3) := by decide +kernel
theorem dX4_step_27 : decode cX4_step 27 = .ok (.putfield 72, 3) := by decide +kernel
theorem dX4_step_30 : decode cX4_step 30 = .ok (.aload_n 0, 1) := by decide +kernel
theorem dX4_step_31 : decode cX4_step 31 = .ok (.iconst 0, 1) := by decide +kernel
theorem dX4_step_32 : decode cX4_step 32 = .ok (.putfield 75, 3) := by decide +kernel
theorem dX4_step_35 : decode cX4_step 35 = .ok (.aload_n 0, 1) := by decide +kernel
theorem dX4_step_36 : decode cX4_step 36 = .ok (.invokevirtual 68, 3) := by decide +kernel
theorem dX4_step_39 : decode cX4_step 39 = .ok (.istore_n 1, 1) := by decide +kernel
theorem dX4_step_40 : decode cX4_step 40 = .ok (.iload_n 1, 1) := by decide +kernel
theorem dX4_step_41 : decode cX4_step 41 = .ok (.ifCond .ge 11, 3) := by decide +kernel
theorem dX4_step_44 : decode cX4_step 44 = .ok (.aload_n 0, 1) := by decide +kernel
theorem dX4_step_45 : decode cX4_step 45 = .ok (.iconst 3, 1) := by decide +kernel
theorem dX4_step_46 : decode cX4_step 46 = .ok (.putfield 78, 3) := by decide +kernel
theorem dX4_step_49 : decode cX4_step 49 = .ok (.goto 204, 3) := by decide +kernel
theorem dX4_step_52 : decode cX4_step 52 = .ok (.iload_n 1, 1) := by decide +kernel
theorem dX4_step_53 : decode cX4_step 53 = .ok (.bipush 97, 2) := by decide +kernel
theorem dX4_step_55 : decode cX4_step 55 = .ok (.bipush 122, 2) := by decide +kernel
theorem dX4_step_57 : decode cX4_step 57 = .ok (.invokestatic 57, 3) := by decide +kernel
theorem dX4_step_60 : decode cX4_step 60 = .ok (.ifCond .eq 55, 3) := by decide +kernel
theorem dX4_step_63 : decode cX4_step 63 = .ok (.aload_n 0, 1) := by decide +kernel
theorem dX4_step_64 : decode cX4_step 64 = .ok (.invokevirtual 68, 3) := by decide +kernel
theorem dX4_step_67 : decode cX4_step 67 = .ok (.bipush 97, 2) := by decide +kernel
theorem dX4_step_69 : decode cX4_step 69 = .ok (.bipush 122, 2) := by decide +kernel
theorem dX4_step_71 : decode cX4_step 71 = .ok (.invokestatic 57, 3) := by decide +kernel
theorem dX4_step_74 : decode cX4_step 74 = .ok (.ifCond .eq 16, 3) := by decide +kernel
theorem dX4_step_77 : decode cX4_step 77 = .ok (.aload_n 0, 1) := by decide +kernel
theorem dX4_step_78 : decode cX4_step 78 = .ok (.dup, 1) := by decide +kernel
theorem dX4_step_79 : decode cX4_step 79 = .ok (.getfield 65, 3) := by decide +kernel
theorem dX4_step_82 : decode cX4_step 82 = .ok (.iconst 1, 1) := by decide +kernel
theorem dX4_step_83 : decode cX4_step 83 = .ok (.iadd, 1) := by decide +kernel
theorem dX4_step_84 : decode cX4_step 84 = .ok (.putfield 65, 3) := by decide +kernel
theorem dX4_step_87 : decode cX4_step 87 = .ok (.goto (-24), 3) := by decide +kernel
theorem dX4_step_90 : decode cX4_step 90 = .ok (.aload_n 0, 1) := by decide +kernel
theorem dX4_step_91 : decode cX4_step 91 = .ok (.aload_n 0, 1) := by decide +kernel
theorem dX4_step_92 : decode cX4_step 92 = .ok (.getfield 65, 3) := by decide +kernel
theorem dX4_step_95 : decode cX4_step 95 = .ok (.aload_n 0, 1) := by decide +kernel
theorem dX4_step_96 : decode cX4_step 96 = .ok (.getfield 72, 3) := by decide +kernel
theorem dX4_step_99 : decode cX4_step 99 = .ok (.isub, 1) := by decide +kernel
theorem dX4_step_100 : decode cX4_step 100 = .ok (.iconst 1, 1) := by decide +kernel
theorem dX4_step_101 : decode cX4_step 101 = .ok (.if_icmp .ne 7, 3) := by decide +kernel
theorem dX4_step_104 : decode cX4_step 104 = .ok (.iload_n 1, 1) := by decide +kernel
theorem dX4_step_105 : decode cX4_step 105 = .ok (.goto 4, 3) := by decide +kernel
theorem dX4_step_108 : decode cX4_step 108 = .ok (.iconst 4, 1) := by decide +kernel
theorem dX4_step_109 : decode cX4_step 109 = .ok (.putfield 78, 3) := by decide +kernel
theorem dX4_step_112 : decode cX4_step 112 = .ok (.goto 141, 3) := by decide +kernel
theorem dX4_step_115 : decode cX4_step 115 = .ok (.iload_n 1, 1) := by decide +kernel
theorem dX4_step_116 : decode cX4_step 116 = .ok (.bipush 48, 2) := by decide +kernel
theorem dX4_step_118 : decode cX4_step 118 = .ok (.bipush 57, 2) := by decide +kernel
theorem dX4_step_120 : decode cX4_step 120 = .ok (.invokestatic 57, 3) := by decide +kernel
theorem dX4_step_123 : decode cX4_step 123 = .ok (.ifCond .eq 105, 3) := by decide +kernel
theorem dX4_step_126 : decode cX4_step 126 = .ok (.aload_n 0, 1) := by decide +kernel
theorem dX4_step_127 : decode cX4_step 127 = .ok (.invokevirtual 68, 3) := by decide +kernel
theorem dX4_step_130 : decode cX4_step 130 = .ok (.bipush 48, 2) := by decide +kernel
theorem dX4_step_132 : decode cX4_step 132 = .ok (.bipush 57, 2) := by decide +kernel
theorem dX4_step_134 : decode cX4_step 134 = .ok (.invokestatic 57, 3) := by decide +kernel
theorem dX4_step_137 : decode cX4_step 137 = .ok (.ifCond .eq 51, 3) := by decide +kernel
theorem dX4_step_140 : decode cX4_step 140 = .ok (.aload_n 0, 1) := by decide +kernel
theorem dX4_step_141 : decode cX4_step 141 = .ok (.aload_n 0, 1) := by decide +kernel
theorem dX4_step_142 : decode cX4_step 142 = .ok (.getfield 75, 3) := by decide +kernel
theorem dX4_step_145 : decode cX4_step 145 = .ok (.bipush 99, 2) := by decide +kernel
theorem dX4_step_147 : decode cX4_step 147 = .ok (.if_icmp .le 10, 3) := by decide +kernel
theorem dX4_step_150 : decode cX4_step 150 = .ok (.aload_n 0, 1) := by decide +kernel
theorem dX4_step_151 : decode cX4_step 151 = .ok (.getfield 75, 3) := by decide +kernel
theorem dX4_step_154 : decode cX4_step 154 = .ok (.goto 18, 3) := by decide +kernel
theorem dX4_step_157 : decode cX4_step 157 = .ok (.bipush 10, 2) := by decide +kernel
theorem dX4_step_159 : decode cX4_step 159 = .ok (.aload_n 0, 1) := by decide +kernel
theorem dX4_step_160 : decode cX4_step 160 = .ok (.getfield 75, 3) := by decide +kernel
theorem dX4_step_163 : decode cX4_step 163 = .ok (.imul, 1) := by decide +kernel
theorem dX4_step_164 : decode cX4_step 164 = .ok (.aload_n 0, 1) := by decide +kernel
theorem dX4_step_165 : decode cX4_step 165 = .ok (.invokevirtual 68, 3) := by decide +kernel
theorem dX4_step_168 : decode cX4_step 168 = .ok (.iadd, 1) := by decide +kernel
theorem dX4_step_169 : decode cX4_step 169 = .ok (.bipush 48, 2) := by decide +kernel
theorem dX4_step_171 : decode cX4_step 171 = .ok (.isub, 1) := by decide +kernel
theorem dX4_step_172 : decode cX4_step 172 = .ok (.putfield 75, 3) := by decide +kernel
theorem dX4_step_175 : decode cX4_step 175 = .ok (.aload_n 0, 1) := by decide +kernel
theorem dX4_step_176 : decode cX4_step 176 = .ok (.dup, 1) := by decide +kernel
theorem dX4_step_177 : decode cX4_step 177 = .ok (.getfield 65, 3) := by decide +kernel
theorem dX4_step_180 : decode cX4_step 180 = .ok (.iconst 1, 1) := by decide +kernel
theorem dX4_step_181 : decode cX4_step 181 = .ok (.iadd, 1) := by decide +kernel
theorem dX4_step_182 : decode cX4_step 182 = .ok (.putfield 65, 3) := by decide +kernel
theorem dX4_step_185 : decode cX4_step 185 = .ok (.goto (-59), 3) := by decide +kernel
theorem dX4_step_188 : decode cX4_step 188 = .ok (.aload_n 0, 1) := by decide +kernel
theorem dX4_step_189 : decode cX4_step 189 = .ok (.aload_n 0, 1) := by decide +kernel
theorem dX4_step_190 : decode cX4_step 190 = .ok (.getfield 75, 3) := by decide +kernel
theorem dX4_step_193 : decode cX4_step 193 = .ok (.bipush 99, 2) := by decide +kernel
theorem dX4_step_195 : decode cX4_step 195 = .ok (.if_icmp .gt 22, 3) := by decide +kernel
theorem dX4_step_198 : decode cX4_step 198 = .ok (.iload_n 1, 1) := by decide +kernel
theorem dX4_step_199 : decode cX4_step 199 = .ok (.bipush 48, 2) := by decide +kernel
theorem dX4_step_201 : decode cX4_step 201 = .ok (.if_icmp .ne 20, 3) := by decide +kernel
theorem dX4_step_204 : decode cX4_step 204 = .ok (.aload_n 0, 1) := by decide +kernel
theorem dX4_step_205 : decode cX4_step 205 = .ok (.getfield 65, 3) := by decide +kernel
theorem dX4_step_208 : decode cX4_step 208 = .ok (.aload_n 0, 1) := by decide +kernel
theorem dX4_step_209 : decode cX4_step 209 = .ok (.getfield 72, 3) := by decide +kernel
theorem dX4_step_212 : decode cX4_step 212 = .ok (.isub, 1) := by decide +kernel
theorem dX4_step_213 : decode cX4_step 213 = .ok (.iconst 1, 1) := by decide +kernel
theorem dX4_step_214 : decode cX4_step 214 = .ok (.if_icmp .le 7, 3) := by decide +kernel
theorem dX4_step_217 : decode cX4_step 217 = .ok (.iconst 4, 1) := by decide +kernel
theorem dX4_step_218 : decode cX4_step 218 = .ok (.goto 4, 3) := by decide +kernel
theorem dX4_step_221 : decode cX4_step 221 = .ok (.iconst 1, 1) := by decide +kernel
theorem dX4_step_222 : decode cX4_step 222 = .ok (.putfield 78, 3) := by decide +kernel
theorem dX4_step_225 : decode cX4_step 225 = .ok (.goto 28, 3) := by decide +kernel
theorem dX4_step_228 : decode cX4_step 228 = .ok (.aload_n 0, 1) := by decide +kernel
theorem dX4_step_229 : decode cX4_step 229 = .ok (.dup, 1) := by decide +kernel
theorem dX4_step_230 : decode cX4_step 230 = .ok (.getfield 65, 3) := by decide +kernel
theorem dX4_step_233 : decode cX4_step 233 = .ok (.iconst 1, 1) := by decide +kernel
theorem dX4_step_234 : decode cX4_step 234 = .ok (.iadd, 1) := by decide +kernel
theorem dX4_step_235 : decode cX4_step 235 = .ok (.putfield 65, 3) := by decide +kernel
theorem dX4_step_238 : decode cX4_step 238 = .ok (.aload_n 0, 1) := by decide +kernel
theorem dX4_step_239 : decode cX4_step 239 = .ok (.iload_n 1, 1) := by decide +kernel
theorem dX4_step_240 : decode cX4_step 240 = .ok (.bipush 59, 2) := by decide +kernel
theorem dX4_step_242 : decode cX4_step 242 = .ok (.if_icmp .ne 7, 3) := by decide +kernel
theorem dX4_step_245 : decode cX4_step 245 = .ok (.iconst 2, 1) := by decide +kernel
theorem dX4_step_246 : decode cX4_step 246 = .ok (.goto 4, 3) := by decide +kernel
theorem dX4_step_249 : decode cX4_step 249 = .ok (.iconst 4, 1) := by decide +kernel
theorem dX4_step_250 : decode cX4_step 250 = .ok (.putfield 78, 3) := by decide +kernel
theorem dX4_step_253 : decode cX4_step 253 = .ok (.return_, 1) := by decide +kernel
theorem dX4_due_0 : decode cX4_due 0 = .ok (.aload_n 0, 1) := by decide +kernel
theorem dX4_due_1 : decode cX4_due 1 = .ok (.getfield 75, 3) := by decide +kernel
theorem dX4_due_4 : decode cX4_due 4 = .ok (.istore_n 2, 1) := by decide +kernel
theorem dX4_due_5 : decode cX4_due 5 = .ok (.aload_n 0, 1) := by decide +kernel
theorem dX4_due_6 : decode cX4_due 6 = .ok (.getfield 81, 3) := by decide +kernel
theorem dX4_due_9 : decode cX4_due 9 = .ok (.bipush (-9), 2) := by decide +kernel
theorem dX4_due_11 : decode cX4_due 11 = .ok (.if_icmp .ne 22, 3) := by decide +kernel
theorem dX4_due_14 : decode cX4_due 14 = .ok (.iload_n 1, 1) := by decide +kernel
theorem dX4_due_15 : decode cX4_due 15 = .ok (.ifCond .eq 10, 3) := by decide +kernel
theorem dX4_due_18 : decode cX4_due 18 = .ok (.aload_n 0, 1) := by decide +kernel
theorem dX4_due_19 : decode cX4_due 19 = .ok (.invokevirtual 84, 3) := by decide +kernel
theorem dX4_due_22 : decode cX4_due 22 = .ok (.goto 11, 3) := by decide +kernel
theorem dX4_due_25 : decode cX4_due 25 = .ok (.aload_n 0, 1) := by decide +kernel
theorem dX4_due_26 : decode cX4_due 26 = .ok (.aload_n 0, 1) := by decide +kernel
theorem dX4_due_27 : decode cX4_due 27 = .ok (.getfield 72, 3) := by decide +kernel
theorem dX4_due_30 : decode cX4_due 30 = .ok (.putfield 81, 3) := by decide +kernel
theorem dX4_due_33 : decode cX4_due 33 = .ok (.iload_n 2, 1) := by decide +kernel
theorem dX4_due_34 : decode cX4_due 34 = .ok (.ireturn, 1) := by decide +kernel
theorem dX4_number_0 : decode cX4_number 0 = .ok (.aload_n 0, 1) := by decide +kernel
theorem dX4_number_1 : decode cX4_number 1 = .ok (.aload_n 0, 1) := by decide +kernel
theorem dX4_number_2 : decode cX4_number 2 = .ok (.getfield 78, 3) := by decide +kernel
theorem dX4_number_5 : decode cX4_number 5 = .ok (.iconst 1, 1) := by decide +kernel
theorem dX4_number_6 : decode cX4_number 6 = .ok (.if_icmp .ne 19, 3) := by decide +kernel
theorem dX4_number_9 : decode cX4_number 9 = .ok (.aload_n 0, 1) := by decide +kernel
theorem dX4_number_10 : decode cX4_number 10 = .ok (.getfield 75, 3) := by decide +kernel
theorem dX4_number_13 : decode cX4_number 13 = .ok (.iload_n 1, 1) := by decide +kernel
theorem dX4_number_14 : decode cX4_number 14 = .ok (.iload_n 2, 1) := by decide +kernel
theorem dX4_number_15 : decode cX4_number 15 = .ok (.invokestatic 57, 3) := by decide +kernel
theorem dX4_number_18 : decode cX4_number 18 = .ok (.ifCond .eq 7, 3) := by decide +kernel
theorem dX4_number_21 : decode cX4_number 21 = .ok (.iconst 1, 1) := by decide +kernel
theorem dX4_number_22 : decode cX4_number 22 = .ok (.goto 4, 3) := by decide +kernel
theorem dX4_number_25 : decode cX4_number 25 = .ok (.iconst 0, 1) := by decide +kernel
theorem dX4_number_26 : decode cX4_number 26 = .ok (.invokevirtual 87, 3) := by decide +kernel
theorem dX4_number_29 : decode cX4_number 29 = .ok (.ireturn, 1) := by decide +kernel
theorem dX4_mayBe_0 : decode cX4_mayBe 0 = .ok (.iload_n 1, 1) := by decide +kernel
theorem dX4_mayBe_1 : decode cX4_mayBe 1 = .ok (.lookupswitch 70 #[(97, 52), (100, 35), (120, 68)], 35) := by decide +kernel
theorem dX4_mayBe_36 : decode cX4_mayBe 36 = .ok (.aload_n 0, 1) := by decide +kernel
theorem dX4_mayBe_37 : decode cX4_mayBe 37 = .ok (.getfield 13, 3) := by decide +kernel
theorem dX4_mayBe_40 : decode cX4_mayBe 40 = .ok (.iconst 1, 1) := by decide +kernel
theorem dX4_mayBe_41 : decode cX4_mayBe 41 = .ok (.iaload, 1) := by decide +kernel
theorem dX4_mayBe_42 : decode cX4_mayBe 42 = .ok (.bipush 6, 2) := by decide +kernel
theorem dX4_mayBe_44 : decode cX4_mayBe 44 = .ok (.if_icmp .ge 7, 3) := by decide +kernel
theorem dX4_mayBe_47 : decode cX4_mayBe 47 = .ok (.iconst 1, 1) := by decide +kernel
theorem dX4_mayBe_48 : decode cX4_mayBe 48 = .ok (.goto 4, 3) := by decide +kernel
theorem dX4_mayBe_51 : decode cX4_mayBe 51 = .ok (.iconst 0, 1) := by decide +kernel
theorem dX4_mayBe_52 : decode cX4_mayBe 52 = .ok (.ireturn, 1) := by decide +kernel
theorem dX4_mayBe_53 : decode cX4_mayBe 53 = .ok (.aload_n 0, 1) := by decide +kernel
theorem dX4_mayBe_54 : decode cX4_mayBe 54 = .ok (.getfield 26, 3) := by decide +kernel
theorem dX4_mayBe_57 : decode cX4_mayBe 57 = .ok (.iconst 1, 1) := by decide +kernel
theorem dX4_mayBe_58 : decode cX4_mayBe 58 = .ok (.iaload, 1) := by decide +kernel
theorem dX4_mayBe_59 : decode cX4_mayBe 59 = .ok (.iconst 5, 1) := by decide +kernel
theorem dX4_mayBe_60 : decode cX4_mayBe 60 = .ok (.if_icmp .ge 7, 3) := by decide +kernel
theorem dX4_mayBe_63 : decode cX4_mayBe 63 = .ok (.iconst 1, 1) := by decide +kernel
theorem dX4_mayBe_64 : decode cX4_mayBe 64 = .ok (.goto 4, 3) := by decide +kernel
theorem dX4_mayBe_67 : decode cX4_mayBe 67 = .ok (.iconst 0, 1) := by decide +kernel
theorem dX4_mayBe_68 : decode cX4_mayBe 68 = .ok (.ireturn, 1) := by decide +kernel
theorem dX4_mayBe_69 : decode cX4_mayBe 69 = .ok (.iconst 1, 1) := by decide +kernel
theorem dX4_mayBe_70 : decode cX4_mayBe 70 = .ok (.ireturn, 1) := by decide +kernel
theorem dX4_mayBe_71 : decode cX4_mayBe 71 = .ok (.iconst 0, 1) := by decide +kernel
theorem dX4_mayBe_72 : decode cX4_mayBe 72 = .ok (.ireturn, 1) := by decide +kernel
theorem dX4_readAct_0 : decode cX4_readAct 0 = .ok (.iconst 5, 1) := by decide +kernel
theorem dX4_readAct_1 : decode cX4_readAct 1 = .ok (.aload_n 0, 1) := by decide +kernel
theorem dX4_readAct_2 : decode cX4_readAct 2 = .ok (.getfield 26, 3) := by decide +kernel
theorem dX4_readAct_5 : decode cX4_readAct 5 = .ok (.iconst 1, 1) := by decide +kernel
theorem dX4_readAct_6 : decode cX4_readAct 6 = .ok (.iaload, 1) := by decide +kernel
theorem dX4_readAct_7 : decode cX4_readAct 7 = .ok (.iadd, 1) := by decide +kernel
theorem dX4_readAct_8 : decode cX4_readAct 8 = .ok (.istore_n 1, 1) := by decide +kernel
theorem dX4_readAct_9 : decode cX4_readAct 9 = .ok (.aload_n 0, 1) := by decide +kernel
theorem dX4_readAct_10 : decode cX4_readAct 10 = .ok (.getfield 29, 3) := by decide +kernel
theorem dX4_readAct_13 : decode cX4_readAct 13 = .ok (.iload_n 1, 1) := by decide +kernel
theorem dX4_readAct_14 : decode cX4_readAct 14 = .ok (.aload_n 0, 1) := by decide +kernel
theorem dX4_readAct_15 : decode cX4_readAct 15 = .ok (.iconst 0, 1) := by decide +kernel
theorem dX4_readAct_16 : decode cX4_readAct 16 = .ok (.bipush 99, 2) := by decide +kernel
theorem dX4_readAct_18 : decode cX4_readAct 18 = .ok (.invokevirtual 91, 3) := by decide +kernel
theorem dX4_readAct_21 : decode cX4_readAct 21 = .ok (.iastore, 1) := by decide +kernel
theorem dX4_readAct_22 : decode cX4_readAct 22 = .ok (.iconst 0, 1) := by decide +kernel
theorem dX4_readAct_23 : decode cX4_readAct 23 = .ok (.istore_n 2, 1) := by decide +kernel
theorem dX4_readAct_24 : decode cX4_readAct 24 = .ok (.iload_n 2, 1) := by decide +kernel
theorem dX4_readAct_25 : decode cX4_readAct 25 = .ok (.bipush 6, 2) := by decide +kernel
theorem dX4_readAct_27 : decode cX4_readAct 27 = .ok (.if_icmp .ge 21, 3) := by decide +kernel
theorem dX4_readAct_30 : decode cX4_readAct 30 = .ok (.aload_n 0, 1) := by decide +kernel
theorem dX4_readAct_31 : decode cX4_readAct 31 = .ok (.getfield 32, 3) := by decide +kernel
theorem dX4_readAct_34 : decode cX4_readAct 34 = .ok (.bipush 6, 2) := by decide +kernel
theorem dX4_readAct_36 : decode cX4_readAct 36 = .ok (.iload_n 1, 1) := by decide +kernel
theorem dX4_readAct_37 : decode cX4_readAct 37 = .ok (.imul, 1) := by decide +kernel
theorem dX4_readAct_38 : decode cX4_readAct 38 = .ok (.iload_n 2, 1) := by decide +kernel
theorem dX4_readAct_39 : decode cX4_readAct 39 = .ok (.iadd, 1) := by decide +kernel
theorem dX4_readAct_40 : decode cX4_readAct 40 = .ok (.iconst 0, 1) := by decide +kernel
theorem dX4_readAct_41 : decode cX4_readAct 41 = .ok (.iastore, 1) := by decide +kernel
theorem dX4_readAct_42 : decode cX4_readAct 42 = .ok (.iinc 2 1, 3) := by decide +kernel
theorem dX4_readAct_45 : decode cX4_readAct 45 = .ok (.goto (-21), 3) := by decide +kernel
theorem dX4_readAct_48 : decode cX4_readAct 48 = .ok (.iconst 0, 1) := by decide +kernel
theorem dX4_readAct_49 : decode cX4_readAct 49 = .ok (.istore_n 2, 1) := by decide +kernel
theorem dX4_readAct_50 : decode cX4_readAct 50 = .ok (.iload_n 2, 1) := by decide +kernel
theorem dX4_readAct_51 : decode cX4_readAct 51 = .ok (.bipush 6, 2) := by decide +kernel
theorem dX4_readAct_53 : decode cX4_readAct 53 = .ok (.if_icmp .ge 71, 3) := by decide +kernel
theorem dX4_readAct_56 : decode cX4_readAct 56 = .ok (.aload_n 0, 1) := by decide +kernel
theorem dX4_readAct_57 : decode cX4_readAct 57 = .ok (.getfield 78, 3) := by decide +kernel
theorem dX4_readAct_60 : decode cX4_readAct 60 = .ok (.iconst 1, 1) := by decide +kernel
theorem dX4_readAct_61 : decode cX4_readAct 61 = .ok (.if_icmp .ne 63, 3) := by decide +kernel
theorem dX4_readAct_64 : decode cX4_readAct 64 = .ok (.aload_n 0, 1) := by decide +kernel
theorem dX4_readAct_65 : decode cX4_readAct 65 = .ok (.getfield 81, 3) := by decide +kernel
theorem dX4_readAct_68 : decode cX4_readAct 68 = .ok (.bipush (-9), 2) := by decide +kernel
theorem dX4_readAct_70 : decode cX4_readAct 70 = .ok (.if_icmp .ne 54, 3) := by decide +kernel
theorem dX4_readAct_73 : decode cX4_readAct 73 = .ok (.aload_n 0, 1) := by decide +kernel
theorem dX4_readAct_74 : decode cX4_readAct 74 = .ok (.iconst 0, 1) := by decide +kernel
theorem dX4_readAct_75 : decode cX4_readAct 75 = .ok (.aload_n 0, 1) := by decide +kernel
theorem dX4_readAct_76 : decode cX4_readAct 76 = .ok (.getfield 13, 3) := by decide +kernel
theorem dX4_readAct_79 : decode cX4_readAct 79 = .ok (.iconst 1, 1) := by decide +kernel
theorem dX4_readAct_80 : decode cX4_readAct 80 = .ok (.iaload, 1) := by decide +kernel
theorem dX4_readAct_81 : decode cX4_readAct 81 = .ok (.iconst 1, 1) := by decide +kernel
theorem dX4_readAct_82 : decode cX4_readAct 82 = .ok (.isub, 1) := by decide +kernel
theorem dX4_readAct_83 : decode cX4_readAct 83 = .ok (.invokevirtual 91, 3) := by decide +kernel
theorem dX4_readAct_86 : decode cX4_readAct 86 = .ok (.istore_n 3, 1) := by decide +kernel
theorem dX4_readAct_87 : decode cX4_readAct 87 = .ok (.aload_n 0, 1) := by decide +kernel
theorem dX4_readAct_88 : decode cX4_readAct 88 = .ok (.iconst 0, 1) := by decide +kernel
theorem dX4_readAct_89 : decode cX4_readAct 89 = .ok (.bipush 9, 2) := by decide +kernel
theorem dX4_readAct_91 : decode cX4_readAct 91 = .ok (.invokevirtual 91, 3) := by decide +kernel
theorem dX4_readAct_94 : decode cX4_readAct 94 = .ok (.istore 4, 2) := by decide +kernel
theorem dX4_readAct_96 : decode cX4_readAct 96 = .ok (.aload_n 0, 1) := by decide +kernel
theorem dX4_readAct_97 : decode cX4_readAct 97 = .ok (.getfield 81, 3) := by decide +kernel
theorem dX4_readAct_100 : decode cX4_readAct 100 = .ok (.bipush (-9), 2) := by decide +kernel
theorem dX4_readAct_102 : decode cX4_readAct 102 = .ok (.if_icmp .ne 16, 3) := by decide +kernel
theorem dX4_readAct_105 : decode cX4_readAct 105 = .ok (.aload_n 0, 1) := by decide +kernel
theorem dX4_readAct_106 : decode cX4_readAct 106 = .ok (.getfield 32, 3) := by decide +kernel
theorem dX4_readAct_109 : decode cX4_readAct 109 = .ok (.bipush 6, 2) := by decide +kernel
theorem dX4_readAct_111 : decode cX4_readAct 111 = .ok (.iload_n 1, 1) := by decide +kernel
theorem dX4_readAct_112 : decode cX4_readAct 112 = .ok (.imul, 1) := by decide +kernel
theorem dX4_readAct_113 : decode cX4_readAct 113 = .ok (.iload_n 3, 1) := by decide +kernel
theorem dX4_readAct_114 : decode cX4_readAct 114 = .ok (.iadd, 1) := by decide +kernel
theorem dX4_readAct_115 : decode cX4_readAct 115 = .ok (.iload 4, 2) := by decide +kernel
theorem dX4_readAct_117 : decode cX4_readAct 117 = .ok (.iastore, 1) := by decide +kernel
theorem dX4_readAct_118 : decode cX4_readAct 118 = .ok (.iinc 2 1, 3) := by decide +kernel
theorem dX4_readAct_121 : decode cX4_readAct 121 = .ok (.goto (-71), 3) := by decide +kernel
theorem dX4_readAct_124 : decode cX4_readAct 124 = .ok (.aload_n 0, 1) := by decide +kernel
theorem dX4_readAct_125 : decode cX4_readAct 125 = .ok (.getfield 26, 3) := by decide +kernel
theorem dX4_readAct_128 : decode cX4_readAct 128 = .ok (.iconst 1, 1) := by decide +kernel
theorem dX4_readAct_129 : decode cX4_readAct 129 = .ok (.dup2, 1) := by decide +kernel
theorem dX4_readAct_130 : decode cX4_readAct 130 = .ok (.iaload, 1) := by decide +kernel
theorem dX4_readAct_131 : decode cX4_readAct 131 = .ok (.iconst 1, 1) := by decide +kernel
theorem dX4_readAct_132 : decode cX4_readAct 132 = .ok (.iadd, 1) := by decide +kernel
theorem dX4_readAct_133 : decode cX4_readAct 133 = .ok (.iastore, 1) := by decide +kernel
theorem dX4_readAct_134 : decode cX4_readAct 134 = .ok (.return_, 1) := by decide +kernel
theorem dX4_readRow_0 : decode cX4_readRow 0 = .ok (.iload_n 1, 1) := by decide +kernel
theorem dX4_readRow_1 : decode cX4_readRow 1 = .ok (.lookupswitch 102 #[(97, 95), (100, 27)], 27) := by decide +kernel
theorem dX4_readRow_28 : decode cX4_readRow 28 = .ok (.aload_n 0, 1) := by decide +kernel
theorem dX4_readRow_29 : decode cX4_readRow 29 = .ok (.getfield 17, 3) := by decide +kernel
theorem dX4_readRow_32 : decode cX4_readRow 32 = .ok (.aload_n 0, 1) := by decide +kernel
theorem dX4_readRow_33 : decode cX4_readRow 33 = .ok (.getfield 13, 3) := by decide +kernel
theorem dX4_readRow_36 : decode cX4_readRow 36 = .ok (.iconst 1, 1) := by decide +kernel
theorem dX4_readRow_37 : decode cX4_readRow 37 = .ok (.iaload, 1) := by decide +kernel
theorem dX4_readRow_38 : decode cX4_readRow 38 = .ok (.aload_n 0, 1) := by decide +kernel
theorem dX4_readRow_39 : decode cX4_readRow 39 = .ok (.iconst 0, 1) := by decide +kernel
theorem dX4_readRow_40 : decode cX4_readRow 40 = .ok (.bipush 40, 2) := by decide +kernel
theorem dX4_readRow_42 : decode cX4_readRow 42 = .ok (.invokevirtual 91, 3) := by decide +kernel
theorem dX4_readRow_45 : decode cX4_readRow 45 = .ok (.iastore, 1) := by decide +kernel
theorem dX4_readRow_46 : decode cX4_readRow 46 = .ok (.aload_n 0, 1) := by decide +kernel
theorem dX4_readRow_47 : decode cX4_readRow 47 = .ok (.getfield 23, 3) := by decide +kernel
theorem dX4_readRow_50 : decode cX4_readRow 50 = .ok (.bipush 6, 2) := by decide +kernel
theorem dX4_readRow_52 : decode cX4_readRow 52 = .ok (.aload_n 0, 1) := by decide +kernel
theorem dX4_readRow_53 : decode cX4_readRow 53 = .ok (.getfield 13, 3) := by decide +kernel
theorem dX4_readRow_56 : decode cX4_readRow 56 = .ok (.iconst 1, 1) := by decide +kernel
theorem dX4_readRow_57 : decode cX4_readRow 57 = .ok (.iaload, 1) := by decide +kernel
theorem dX4_readRow_58 : decode cX4_readRow 58 = .ok (.iadd, 1) := by decide +kernel
theorem dX4_readRow_59 : decode cX4_readRow 59 = .ok (.aload_n 0, 1) := by decide +kernel
theorem dX4_readRow_60 : decode cX4_readRow 60 = .ok (.iconst 0, 1) := by decide +kernel
theorem dX4_readRow_61 : decode cX4_readRow 61 = .ok (.iconst 5, 1) := by decide +kernel
theorem dX4_readRow_62 : decode cX4_readRow 62 = .ok (.invokevirtual 91, 3) := by decide +kernel
theorem dX4_readRow_65 : decode cX4_readRow 65 = .ok (.iastore, 1) := by decide +kernel
theorem dX4_readRow_66 : decode cX4_readRow 66 = .ok (.aload_n 0, 1) := by decide +kernel
theorem dX4_readRow_67 : decode cX4_readRow 67 = .ok (.getfield 20, 3) := by decide +kernel
theorem dX4_readRow_70 : decode cX4_readRow 70 = .ok (.aload_n 0, 1) := by decide +kernel
theorem dX4_readRow_71 : decode cX4_readRow 71 = .ok (.getfield 13, 3) := by decide +kernel
theorem dX4_readRow_74 : decode cX4_readRow 74 = .ok (.iconst 1, 1) := by decide +kernel
theorem dX4_readRow_75 : decode cX4_readRow 75 = .ok (.iaload, 1) := by decide +kernel
theorem dX4_readRow_76 : decode cX4_readRow 76 = .ok (.aload_n 0, 1) := by decide +kernel
theorem dX4_readRow_77 : decode cX4_readRow 77 = .ok (.getfield 13, 3) := by decide +kernel
theorem dX4_readRow_80 : decode cX4_readRow 80 = .ok (.iconst 1, 1) := by decide +kernel
theorem dX4_readRow_81 : decode cX4_readRow 81 = .ok (.iaload, 1) := by decide +kernel
theorem dX4_readRow_82 : decode cX4_readRow 82 = .ok (.iastore, 1) := by decide +kernel
theorem dX4_readRow_83 : decode cX4_readRow 83 = .ok (.aload_n 0, 1) := by decide +kernel
theorem dX4_readRow_84 : decode cX4_readRow 84 = .ok (.getfield 13, 3) := by decide +kernel
theorem dX4_readRow_87 : decode cX4_readRow 87 = .ok (.iconst 1, 1) := by decide +kernel
theorem dX4_readRow_88 : decode cX4_readRow 88 = .ok (.dup2, 1) := by decide +kernel
theorem dX4_readRow_89 : decode cX4_readRow 89 = .ok (.iaload, 1) := by decide +kernel
theorem dX4_readRow_90 : decode cX4_readRow 90 = .ok (.iconst 1, 1) := by decide +kernel
theorem dX4_readRow_91 : decode cX4_readRow 91 = .ok (.iadd, 1) := by decide +kernel
theorem dX4_readRow_92 : decode cX4_readRow 92 = .ok (.iastore, 1) := by decide +kernel
theorem dX4_readRow_93 : decode cX4_readRow 93 = .ok (.goto 100, 3) := by decide +kernel
theorem dX4_readRow_96 : decode cX4_readRow 96 = .ok (.aload_n 0, 1) := by decide +kernel
theorem dX4_readRow_97 : decode cX4_readRow 97 = .ok (.invokevirtual 95, 3) := by decide +kernel
theorem dX4_readRow_100 : decode cX4_readRow 100 = .ok (.goto 93, 3) := by decide +kernel
theorem dX4_readRow_103 : decode cX4_readRow 103 = .ok (.aload_n 0, 1) := by decide +kernel
theorem dX4_readRow_104 : decode cX4_readRow 104 = .ok (.iconst 0, 1) := by decide +kernel
theorem dX4_readRow_105 : decode cX4_readRow 105 = .ok (.aload_n 0, 1) := by decide +kernel
theorem dX4_readRow_106 : decode cX4_readRow 106 = .ok (.getfield 13, 3) := by decide +kernel
theorem dX4_readRow_109 : decode cX4_readRow 109 = .ok (.iconst 1, 1) := by decide +kernel
theorem dX4_readRow_110 : decode cX4_readRow 110 = .ok (.iaload, 1) := by decide +kernel
theorem dX4_readRow_111 : decode cX4_readRow 111 = .ok (.iconst 1, 1) := by decide +kernel
theorem dX4_readRow_112 : decode cX4_readRow 112 = .ok (.isub, 1) := by decide +kernel
theorem dX4_readRow_113 : decode cX4_readRow 113 = .ok (.invokevirtual 91, 3) := by decide +kernel
theorem dX4_readRow_116 : decode cX4_readRow 116 = .ok (.istore_n 2, 1) := by decide +kernel
theorem dX4_readRow_117 : decode cX4_readRow 117 = .ok (.aload_n 0, 1) := by decide +kernel
theorem dX4_readRow_118 : decode cX4_readRow 118 = .ok (.aload_n 0, 1) := by decide +kernel
theorem dX4_readRow_119 : decode cX4_readRow 119 = .ok (.getfield 78, 3) := by decide +kernel
theorem dX4_readRow_122 : decode cX4_readRow 122 = .ok (.iconst 1, 1) := by decide +kernel
theorem dX4_readRow_123 : decode cX4_readRow 123 = .ok (.if_icmp .ne 28, 3) := by decide +kernel
theorem dX4_readRow_126 : decode cX4_readRow 126 = .ok (.aload_n 0, 1) := by decide +kernel
theorem dX4_readRow_127 : decode cX4_readRow 127 = .ok (.getfield 75, 3) := by decide +kernel
theorem dX4_readRow_130 : decode cX4_readRow 130 = .ok (.aload_n 0, 1) := by decide +kernel
theorem dX4_readRow_131 : decode cX4_readRow 131 = .ok (.getfield 13, 3) := by decide +kernel
theorem dX4_readRow_134 : decode cX4_readRow 134 = .ok (.iconst 1, 1) := by decide +kernel
theorem dX4_readRow_135 : decode cX4_readRow 135 = .ok (.iaload, 1) := by decide +kernel
theorem dX4_readRow_136 : decode cX4_readRow 136 = .ok (.if_icmp .ge 15, 3) := by decide +kernel
theorem dX4_readRow_139 : decode cX4_readRow 139 = .ok (.aload_n 0, 1) := by decide +kernel
theorem dX4_readRow_140 : decode cX4_readRow 140 = .ok (.getfield 75, 3) := by decide +kernel
theorem dX4_readRow_143 : decode cX4_readRow 143 = .ok (.iload_n 2, 1) := by decide +kernel
theorem dX4_readRow_144 : decode cX4_readRow 144 = .ok (.if_icmp .eq 7, 3) := by decide +kernel
theorem dX4_readRow_147 : decode cX4_readRow 147 = .ok (.iconst 1, 1) := by decide +kernel
theorem dX4_readRow_148 : decode cX4_readRow 148 = .ok (.goto 4, 3) := by decide +kernel
theorem dX4_readRow_151 : decode cX4_readRow 151 = .ok (.iconst 0, 1) := by decide +kernel
theorem dX4_readRow_152 : decode cX4_readRow 152 = .ok (.invokevirtual 87, 3) := by decide +kernel
theorem dX4_readRow_155 : decode cX4_readRow 155 = .ok (.istore_n 3, 1) := by decide +kernel
theorem dX4_readRow_156 : decode cX4_readRow 156 = .ok (.aload_n 0, 1) := by decide +kernel
theorem dX4_readRow_157 : decode cX4_readRow 157 = .ok (.getfield 81, 3) := by decide +kernel
theorem dX4_readRow_160 : decode cX4_readRow 160 = .ok (.bipush (-9), 2) := by decide +kernel
theorem dX4_readRow_162 : decode cX4_readRow 162 = .ok (.if_icmp .ne 31, 3) := by decide +kernel
theorem dX4_readRow_165 : decode cX4_readRow 165 = .ok (.aload_n 0, 1) := by decide +kernel
theorem dX4_readRow_166 : decode cX4_readRow 166 = .ok (.getfield 20, 3) := by decide +kernel
theorem dX4_readRow_169 : decode cX4_readRow 169 = .ok (.iload_n 2, 1) := by decide +kernel
theorem dX4_readRow_170 : decode cX4_readRow 170 = .ok (.iaload, 1) := by decide +kernel
theorem dX4_readRow_171 : decode cX4_readRow 171 = .ok (.istore 4, 2) := by decide +kernel
theorem dX4_readRow_173 : decode cX4_readRow 173 = .ok (.aload_n 0, 1) := by decide +kernel
theorem dX4_readRow_174 : decode cX4_readRow 174 = .ok (.getfield 20, 3) := by decide +kernel
theorem dX4_readRow_177 : decode cX4_readRow 177 = .ok (.iload_n 2, 1) := by decide +kernel
theorem dX4_readRow_178 : decode cX4_readRow 178 = .ok (.aload_n 0, 1) := by decide +kernel
theorem dX4_readRow_179 : decode cX4_readRow 179 = .ok (.getfield 20, 3) := by decide +kernel
theorem dX4_readRow_182 : decode cX4_readRow 182 = .ok (.iload_n 3, 1) := by decide +kernel
theorem dX4_readRow_183 : decode cX4_readRow 183 = .ok (.iaload, 1) := by decide +kernel
theorem dX4_readRow_184 : decode cX4_readRow 184 = .ok (.iastore, 1) := by decide +kernel
theorem dX4_readRow_185 : decode cX4_readRow 185 = .ok (.aload_n 0, 1) := by decide +kernel
theorem dX4_readRow_186 : decode cX4_readRow 186 = .ok (.getfield 20, 3) := by decide +kernel
theorem dX4_readRow_189 : decode cX4_readRow 189 = .ok (.iload_n 3, 1) := by decide +kernel
theorem dX4_readRow_190 : decode cX4_readRow 190 = .ok (.iload 4, 2) := by decide +kernel
theorem dX4_readRow_192 : decode cX4_readRow 192 = .ok (.iastore, 1) := by decide +kernel
theorem dX4_readRow_193 : decode cX4_readRow 193 = .ok (.return_, 1) := by decide +kernel
theorem dX4_plain_0 : decode cX4_plain 0 = .ok (.aload_n 0, 1) := by decide +kernel
theorem dX4_plain_1 : decode cX4_plain 1 = .ok (.getfield 13, 3) := by decide +kernel
theorem dX4_plain_4 : decode cX4_plain 4 = .ok (.iconst 1, 1) := by decide +kernel
theorem dX4_plain_5 : decode cX4_plain 5 = .ok (.iconst 0, 1) := by decide +kernel
theorem dX4_plain_6 : decode cX4_plain 6 = .ok (.iastore, 1) := by decide +kernel
theorem dX4_plain_7 : decode cX4_plain 7 = .ok (.aload_n 0, 1) := by decide +kernel
theorem dX4_plain_8 : decode cX4_plain 8 = .ok (.getfield 26, 3) := by decide +kernel
theorem dX4_plain_11 : decode cX4_plain 11 = .ok (.iconst 1, 1) := by decide +kernel
theorem dX4_plain_12 : decode cX4_plain 12 = .ok (.iconst 0, 1) := by decide +kernel
theorem dX4_plain_13 : decode cX4_plain 13 = .ok (.iastore, 1) := by decide +kernel
theorem dX4_plain_14 : decode cX4_plain 14 = .ok (.return_, 1) := by decide +kernel
theorem dX4_takeDraft_0 : decode cX4_takeDraft 0 = .ok (.aload_n 0, 1) := by decide +kernel
theorem dX4_takeDraft_1 : decode cX4_takeDraft 1 = .ok (.getfield 13, 3) := by decide +kernel
theorem dX4_takeDraft_4 : decode cX4_takeDraft 4 = .ok (.iconst 0, 1) := by decide +kernel
theorem dX4_takeDraft_5 : decode cX4_takeDraft 5 = .ok (.aload_n 0, 1) := by decide +kernel
theorem dX4_takeDraft_6 : decode cX4_takeDraft 6 = .ok (.getfield 13, 3) := by decide +kernel
theorem dX4_takeDraft_9 : decode cX4_takeDraft 9 = .ok (.iconst 1, 1) := by decide +kernel
theorem dX4_takeDraft_10 : decode cX4_takeDraft 10 = .ok (.iaload, 1) := by decide +kernel
theorem dX4_takeDraft_11 : decode cX4_takeDraft 11 = .ok (.iastore, 1) := by decide +kernel
theorem dX4_takeDraft_12 : decode cX4_takeDraft 12 = .ok (.aload_n 0, 1) := by decide +kernel
theorem dX4_takeDraft_13 : decode cX4_takeDraft 13 = .ok (.getfield 26, 3) := by decide +kernel
theorem dX4_takeDraft_16 : decode cX4_takeDraft 16 = .ok (.iconst 0, 1) := by decide +kernel
theorem dX4_takeDraft_17 : decode cX4_takeDraft 17 = .ok (.aload_n 0, 1) := by decide +kernel
theorem dX4_takeDraft_18 : decode cX4_takeDraft 18 = .ok (.getfield 26, 3) := by decide +kernel
theorem dX4_takeDraft_21 : decode cX4_takeDraft 21 = .ok (.iconst 1, 1) := by decide +kernel
theorem dX4_takeDraft_22 : decode cX4_takeDraft 22 = .ok (.iaload, 1) := by decide +kernel
theorem dX4_takeDraft_23 : decode cX4_takeDraft 23 = .ok (.iastore, 1) := by decide +kernel
theorem dX4_takeDraft_24 : decode cX4_takeDraft 24 = .ok (.iconst 0, 1) := by decide +kernel
theorem dX4_takeDraft_25 : decode cX4_takeDraft 25 = .ok (.istore_n 1, 1) := by decide +kernel
theorem dX4_takeDraft_26 : decode cX4_takeDraft 26 = .ok (.iload_n 1, 1) := by decide +kernel
theorem dX4_takeDraft_27 : decode cX4_takeDraft 27 = .ok (.bipush 22, 2) := by decide +kernel
theorem dX4_takeDraft_29 : decode cX4_takeDraft 29 = .ok (.if_icmp .ge 16, 3) := by decide +kernel
theorem dX4_takeDraft_32 : decode cX4_takeDraft 32 = .ok (.aload_n 0, 1) := by decide +kernel
theorem dX4_takeDraft_33 : decode cX4_takeDraft 33 = .ok (.getfield 35, 3) := by decide +kernel
theorem dX4_takeDraft_36 : decode cX4_takeDraft 36 = .ok (.iload_n 1, 1) := by decide +kernel
theorem dX4_takeDraft_37 : decode cX4_takeDraft 37 = .ok (.iconst 0, 1) := by decide +kernel
theorem dX4_takeDraft_38 : decode cX4_takeDraft 38 = .ok (.iastore, 1) := by decide +kernel
theorem dX4_takeDraft_39 : decode cX4_takeDraft 39 = .ok (.iinc 1 1, 3) := by decide +kernel
theorem dX4_takeDraft_42 : decode cX4_takeDraft 42 = .ok (.goto (-16), 3) := by decide +kernel
theorem dX4_takeDraft_45 : decode cX4_takeDraft 45 = .ok (.iconst 0, 1) := by decide +kernel
theorem dX4_takeDraft_46 : decode cX4_takeDraft 46 = .ok (.istore_n 1, 1) := by decide +kernel
theorem dX4_takeDraft_47 : decode cX4_takeDraft 47 = .ok (.iload_n 1, 1) := by decide +kernel
theorem dX4_takeDraft_48 : decode cX4_takeDraft 48 = .ok (.aload_n 0, 1) := by decide +kernel
theorem dX4_takeDraft_49 : decode cX4_takeDraft 49 = .ok (.getfield 13, 3) := by decide +kernel
theorem dX4_takeDraft_52 : decode cX4_takeDraft 52 = .ok (.iconst 0, 1) := by decide +kernel
theorem dX4_takeDraft_53 : decode cX4_takeDraft 53 = .ok (.iaload, 1) := by decide +kernel
theorem dX4_takeDraft_54 : decode cX4_takeDraft 54 = .ok (.if_icmp .ge 51, 3) := by decide +kernel
theorem dX4_takeDraft_57 : decode cX4_takeDraft 57 = .ok (.aload_n 0, 1) := by decide +kernel
theorem dX4_takeDraft_58 : decode cX4_takeDraft 58 = .ok (.getfield 35, 3) := by decide +kernel
theorem dX4_takeDraft_61 : decode cX4_takeDraft 61 = .ok (.iload_n 1, 1) := by decide +kernel
theorem dX4_takeDraft_62 : decode cX4_takeDraft 62 = .ok (.aload_n 0, 1) := by decide +kernel
theorem dX4_takeDraft_63 : decode cX4_takeDraft 63 = .ok (.getfield 17, 3) := by decide +kernel
theorem dX4_takeDraft_66 : decode cX4_takeDraft 66 = .ok (.iload_n 1, 1) := by decide +kernel
theorem dX4_takeDraft_67 : decode cX4_takeDraft 67 = .ok (.iaload, 1) := by decide +kernel
theorem dX4_takeDraft_68 : decode cX4_takeDraft 68 = .ok (.iastore, 1) := by decide +kernel
theorem dX4_takeDraft_69 : decode cX4_takeDraft 69 = .ok (.aload_n 0, 1) := by decide +kernel
theorem dX4_takeDraft_70 : decode cX4_takeDraft 70 = .ok (.getfield 35, 3) := by decide +kernel
theorem dX4_takeDraft_73 : decode cX4_takeDraft 73 = .ok (.bipush 12, 2) := by decide +kernel
theorem dX4_takeDraft_75 : decode cX4_takeDraft 75 = .ok (.iload_n 1, 1) := by decide +kernel
theorem dX4_takeDraft_76 : decode cX4_takeDraft 76 = .ok (.iadd, 1) := by decide +kernel
theorem dX4_takeDraft_77 : decode cX4_takeDraft 77 = .ok (.aload_n 0, 1) := by decide +kernel
theorem dX4_takeDraft_78 : decode cX4_takeDraft 78 = .ok (.getfield 20, 3) := by decide +kernel
theorem dX4_takeDraft_81 : decode cX4_takeDraft 81 = .ok (.iload_n 1, 1) := by decide +kernel
theorem dX4_takeDraft_82 : decode cX4_takeDraft 82 = .ok (.iaload, 1) := by decide +kernel
theorem dX4_takeDraft_83 : decode cX4_takeDraft 83 = .ok (.iastore, 1) := by decide +kernel
theorem dX4_takeDraft_84 : decode cX4_takeDraft 84 = .ok (.aload_n 0, 1) := by decide +kernel
theorem dX4_takeDraft_85 : decode cX4_takeDraft 85 = .ok (.getfield 23, 3) := by decide +kernel
theorem dX4_takeDraft_88 : decode cX4_takeDraft 88 = .ok (.iload_n 1, 1) := by decide +kernel
theorem dX4_takeDraft_89 : decode cX4_takeDraft 89 = .ok (.aload_n 0, 1) := by decide +kernel
theorem dX4_takeDraft_90 : decode cX4_takeDraft 90 = .ok (.getfield 23, 3) := by decide +kernel
theorem dX4_takeDraft_93 : decode cX4_takeDraft 93 = .ok (.bipush 6, 2) := by decide +kernel
theorem dX4_takeDraft_95 : decode cX4_takeDraft 95 = .ok (.iload_n 1, 1) := by decide +kernel
theorem dX4_takeDraft_96 : decode cX4_takeDraft 96 = .ok (.iadd, 1) := by decide +kernel
theorem dX4_takeDraft_97 : decode cX4_takeDraft 97 = .ok (.iaload, 1) := by decide +kernel
theorem dX4_takeDraft_98 : decode cX4_takeDraft 98 = .ok (.iastore, 1) := by decide +kernel
theorem dX4_takeDraft_99 : decode cX4_takeDraft 99 = .ok (.iinc 1 1, 3) := by decide +kernel
theorem dX4_takeDraft_102 : decode cX4_takeDraft 102 = .ok (.goto (-55), 3) := by decide +kernel
theorem dX4_takeDraft_105 : decode cX4_takeDraft 105 = .ok (.iconst 0, 1) := by decide +kernel
theorem dX4_takeDraft_106 : decode cX4_takeDraft 106 = .ok (.istore_n 1, 1) := by decide +kernel
theorem dX4_takeDraft_107 : decode cX4_takeDraft 107 = .ok (.iload_n 1, 1) := by decide +kernel
theorem dX4_takeDraft_108 : decode cX4_takeDraft 108 = .ok (.aload_n 0, 1) := by decide +kernel
theorem dX4_takeDraft_109 : decode cX4_takeDraft 109 = .ok (.getfield 26, 3) := by decide +kernel
theorem dX4_takeDraft_112 : decode cX4_takeDraft 112 = .ok (.iconst 0, 1) := by decide +kernel
theorem dX4_takeDraft_113 : decode cX4_takeDraft 113 = .ok (.iaload, 1) := by decide +kernel
theorem dX4_takeDraft_114 : decode cX4_takeDraft 114 = .ok (.if_icmp .ge 61, 3) := by decide +kernel
theorem dX4_takeDraft_117 : decode cX4_takeDraft 117 = .ok (.aload_n 0, 1) := by decide +kernel
theorem dX4_takeDraft_118 : decode cX4_takeDraft 118 = .ok (.getfield 29, 3) := by decide +kernel
theorem dX4_takeDraft_121 : decode cX4_takeDraft 121 = .ok (.iload_n 1, 1) := by decide +kernel
theorem dX4_takeDraft_122 : decode cX4_takeDraft 122 = .ok (.aload_n 0, 1) := by decide +kernel
theorem dX4_takeDraft_123 : decode cX4_takeDraft 123 = .ok (.getfield 29, 3) := by decide +kernel
theorem dX4_takeDraft_126 : decode cX4_takeDraft 126 = .ok (.iconst 5, 1) := by decide +kernel
theorem dX4_takeDraft_127 : decode cX4_takeDraft 127 = .ok (.iload_n 1, 1) := by decide +kernel
theorem dX4_takeDraft_128 : decode cX4_takeDraft 128 = .ok (.iadd, 1) := by decide +kernel
theorem dX4_takeDraft_129 : decode cX4_takeDraft 129 = .ok (.iaload, 1) := by decide +kernel
theorem dX4_takeDraft_130 : decode cX4_takeDraft 130 = .ok (.iastore, 1) := by decide +kernel
theorem dX4_takeDraft_131 : decode cX4_takeDraft 131 = .ok (.iconst 0, 1) := by decide +kernel
theorem dX4_takeDraft_132 : decode cX4_takeDraft 132 = .ok (.istore_n 2, 1) := by decide +kernel
theorem dX4_takeDraft_133 : decode cX4_takeDraft 133 = .ok (.iload_n 2, 1) := by decide +kernel
theorem dX4_takeDraft_134 : decode cX4_takeDraft 134 = .ok (.bipush 6, 2) := by decide +kernel
theorem dX4_takeDraft_136 : decode cX4_takeDraft 136 = .ok (.if_icmp .ge 33, 3) := by decide +kernel
theorem dX4_takeDraft_139 : decode cX4_takeDraft 139 = .ok (.aload_n 0, 1) := by decide +kernel
theorem dX4_takeDraft_140 : decode cX4_takeDraft 140 = .ok (.getfield 32, 3) := by decide +kernel
theorem dX4_takeDraft_143 : decode cX4_takeDraft 143 = .ok (.bipush 6, 2) := by decide +kernel
theorem dX4_takeDraft_145 : decode cX4_takeDraft 145 = .ok (.iload_n 1, 1) := by decide +kernel
theorem dX4_takeDraft_146 : decode cX4_takeDraft 146 = .ok (.imul, 1) := by decide +kernel
theorem dX4_takeDraft_147 : decode cX4_takeDraft 147 = .ok (.iload_n 2, 1) := by decide +kernel
theorem dX4_takeDraft_148 : decode cX4_takeDraft 148 = .ok (.iadd, 1) := by decide +kernel
theorem dX4_takeDraft_149 : decode cX4_takeDraft 149 = .ok (.aload_n 0, 1) := by decide +kernel
theorem dX4_takeDraft_150 : decode cX4_takeDraft 150 = .ok (.getfield 32, 3) := by decide +kernel
theorem dX4_takeDraft_153 : decode cX4_takeDraft 153 = .ok (.bipush 6, 2) := by decide +kernel
theorem dX4_takeDraft_155 : decode cX4_takeDraft 155 = .ok (.iconst 5, 1) := by decide +kernel
theorem dX4_takeDraft_156 : decode cX4_takeDraft 156 = .ok (.iload_n 1, 1) := by decide +kernel
theorem dX4_takeDraft_157 : decode cX4_takeDraft 157 = .ok (.iadd, 1) := by decide +kernel
theorem dX4_takeDraft_158 : decode cX4_takeDraft 158 = .ok (.imul, 1) := by decide +kernel
theorem dX4_takeDraft_159 : decode cX4_takeDraft 159 = .ok (.iload_n 2, 1) := by decide +kernel
theorem dX4_takeDraft_160 : decode cX4_takeDraft 160 = .ok (.iadd, 1) := by decide +kernel
theorem dX4_takeDraft_161 : decode cX4_takeDraft 161 = .ok (.iaload, 1) := by decide +kernel
theorem dX4_takeDraft_162 : decode cX4_takeDraft 162 = .ok (.iastore, 1) := by decide +kernel
theorem dX4_takeDraft_163 : decode cX4_takeDraft 163 = .ok (.iinc 2 1, 3) := by decide +kernel
theorem dX4_takeDraft_166 : decode cX4_takeDraft 166 = .ok (.goto (-33), 3) := by decide +kernel
theorem dX4_takeDraft_169 : decode cX4_takeDraft 169 = .ok (.iinc 1 1, 3) := by decide +kernel
theorem dX4_takeDraft_172 : decode cX4_takeDraft 172 = .ok (.goto (-65), 3) := by decide +kernel
theorem dX4_takeDraft_175 : decode cX4_takeDraft 175 = .ok (.aload_n 0, 1) := by decide +kernel
theorem dX4_takeDraft_176 : decode cX4_takeDraft 176 = .ok (.getfield 35, 3) := by decide +kernel
theorem dX4_takeDraft_179 : decode cX4_takeDraft 179 = .ok (.bipush 22, 2) := by decide +kernel
theorem dX4_takeDraft_181 : decode cX4_takeDraft 181 = .ok (.iconst 0, 1) := by decide +kernel
theorem dX4_takeDraft_182 : decode cX4_takeDraft 182 = .ok (.iastore, 1) := by decide +kernel
theorem dX4_takeDraft_183 : decode cX4_takeDraft 183 = .ok (.aload_n 0, 1) := by decide +kernel
theorem dX4_takeDraft_184 : decode cX4_takeDraft 184 = .ok (.iconst 0, 1) := by decide +kernel
theorem dX4_takeDraft_185 : decode cX4_takeDraft 185 = .ok (.putfield 98, 3) := by decide +kernel
theorem dX4_takeDraft_188 : decode cX4_takeDraft 188 = .ok (.aload_n 0, 1) := by decide +kernel
theorem dX4_takeDraft_189 : decode cX4_takeDraft 189 = .ok (.getfield 38, 3) := by decide +kernel
theorem dX4_takeDraft_192 : decode cX4_takeDraft 192 = .ok (.iconst 0, 1) := by decide +kernel
theorem dX4_takeDraft_193 : decode cX4_takeDraft 193 = .ok (.iconst 0, 1) := by decide +kernel
theorem dX4_takeDraft_194 : decode cX4_takeDraft 194 = .ok (.bastore, 1) := by decide +kernel
theorem dX4_takeDraft_195 : decode cX4_takeDraft 195 = .ok (.aload_n 0, 1) := by decide +kernel
theorem dX4_takeDraft_196 : decode cX4_takeDraft 196 = .ok (.getfield 38, 3) := by decide +kernel
theorem dX4_takeDraft_199 : decode cX4_takeDraft 199 = .ok (.iconst 1, 1) := by decide +kernel
theorem dX4_takeDraft_200 : decode cX4_takeDraft 200 = .ok (.iconst 0, 1) := by decide +kernel
theorem dX4_takeDraft_201 : decode cX4_takeDraft 201 = .ok (.bastore, 1) := by decide +kernel
theorem dX4_takeDraft_202 : decode cX4_takeDraft 202 = .ok (.return_, 1) := by decide +kernel
theorem dX4_sideboard_0 : decode cX4_sideboard 0 = .ok (.aload_n 0, 1) := by decide +kernel
theorem dX4_sideboard_1 : decode cX4_sideboard 1 = .ok (.iconst 0, 1) := by decide +kernel
theorem dX4_sideboard_2 : decode cX4_sideboard 2 = .ok (.putfield 65, 3) := by decide +kernel
theorem dX4_sideboard_5 : decode cX4_sideboard 5 = .ok (.aload_n 0, 1) := by decide +kernel
theorem dX4_sideboard_6 : decode cX4_sideboard 6 = .ok (.bipush (-9), 2) := by decide +kernel
theorem dX4_sideboard_8 : decode cX4_sideboard 8 = .ok (.putfield 81, 3) := by decide +kernel
theorem dX4_sideboard_11 : decode cX4_sideboard 11 = .ok (.aload_n 0, 1) := by decide +kernel
theorem dX4_sideboard_12 : decode cX4_sideboard 12 = .ok (.invokevirtual 51, 3) := by decide +kernel
theorem dX4_sideboard_15 : decode cX4_sideboard 15 = .ok (.iconst 0, 1) := by decide +kernel
theorem dX4_sideboard_16 : decode cX4_sideboard 16 = .ok (.istore_n 1, 1) := by decide +kernel
theorem dX4_sideboard_17 : decode cX4_sideboard 17 = .ok (.aload_n 0, 1) := by decide +kernel
theorem dX4_sideboard_18 : decode cX4_sideboard 18 = .ok (.invokevirtual 84, 3) := by decide +kernel
theorem dX4_sideboard_21 : decode cX4_sideboard 21 = .ok (.aload_n 0, 1) := by decide +kernel
theorem dX4_sideboard_22 : decode cX4_sideboard 22 = .ok (.getfield 81, 3) := by decide +kernel
theorem dX4_sideboard_25 : decode cX4_sideboard 25 = .ok (.bipush (-9), 2) := by decide +kernel
theorem dX4_sideboard_27 : decode cX4_sideboard 27 = .ok (.if_icmp .ne 64, 3) := by decide +kernel
theorem dX4_sideboard_30 : decode cX4_sideboard 30 = .ok (.aload_n 0, 1) := by decide +kernel
theorem dX4_sideboard_31 : decode cX4_sideboard 31 = .ok (.getfield 78, 3) := by decide +kernel
theorem dX4_sideboard_34 : decode cX4_sideboard 34 = .ok (.iconst 3, 1) := by decide +kernel
theorem dX4_sideboard_35 : decode cX4_sideboard 35 = .ok (.if_icmp .eq 56, 3) := by decide +kernel
theorem dX4_sideboard_38 : decode cX4_sideboard 38 = .ok (.aload_n 0, 1) := by decide +kernel
theorem dX4_sideboard_39 : decode cX4_sideboard 39 = .ok (.getfield 78, 3) := by decide +kernel
theorem dX4_sideboard_42 : decode cX4_sideboard 42 = .ok (.istore_n 2, 1) := by decide +kernel
theorem dX4_sideboard_43 : decode cX4_sideboard 43 = .ok (.aload_n 0, 1) := by decide +kernel
theorem dX4_sideboard_44 : decode cX4_sideboard 44 = .ok (.aload_n 0, 1) := by decide +kernel
theorem dX4_sideboard_45 : decode cX4_sideboard 45 = .ok (.iload_n 2, 1) := by decide +kernel
theorem dX4_sideboard_46 : decode cX4_sideboard 46 = .ok (.invokevirtual 101, 3) := by decide +kernel
theorem dX4_sideboard_49 : decode cX4_sideboard 49 = .ok (.invokevirtual 87, 3) := by decide +kernel
theorem dX4_sideboard_52 : decode cX4_sideboard 52 = .ok (.pop, 1) := by decide +kernel
theorem dX4_sideboard_53 : decode cX4_sideboard 53 = .ok (.aload_n 0, 1) := by decide +kernel
theorem dX4_sideboard_54 : decode cX4_sideboard 54 = .ok (.getfield 81, 3) := by decide +kernel
theorem dX4_sideboard_57 : decode cX4_sideboard 57 = .ok (.bipush (-9), 2) := by decide +kernel
theorem dX4_sideboard_59 : decode cX4_sideboard 59 = .ok (.if_icmp .ne 29, 3) := by decide +kernel
theorem dX4_sideboard_62 : decode cX4_sideboard 62 = .ok (.aload_n 0, 1) := by decide +kernel
theorem dX4_sideboard_63 : decode cX4_sideboard 63 = .ok (.iload_n 2, 1) := by decide +kernel
theorem dX4_sideboard_64 : decode cX4_sideboard 64 = .ok (.invokevirtual 105, 3) := by decide +kernel
theorem dX4_sideboard_67 : decode cX4_sideboard 67 = .ok (.aload_n 0, 1) := by decide +kernel
theorem dX4_sideboard_68 : decode cX4_sideboard 68 = .ok (.aload_n 0, 1) := by decide +kernel
theorem dX4_sideboard_69 : decode cX4_sideboard 69 = .ok (.getfield 78, 3) := by decide +kernel
theorem dX4_sideboard_72 : decode cX4_sideboard 72 = .ok (.iconst 2, 1) := by decide +kernel
theorem dX4_sideboard_73 : decode cX4_sideboard 73 = .ok (.if_icmp .ne 7, 3) := by decide +kernel
theorem dX4_sideboard_76 : decode cX4_sideboard 76 = .ok (.iconst 1, 1) := by decide +kernel
theorem dX4_sideboard_77 : decode cX4_sideboard 77 = .ok (.goto 4, 3) := by decide +kernel
theorem dX4_sideboard_80 : decode cX4_sideboard 80 = .ok (.iconst 0, 1) := by decide +kernel
theorem dX4_sideboard_81 : decode cX4_sideboard 81 = .ok (.invokevirtual 87, 3) := by decide +kernel
theorem dX4_sideboard_84 : decode cX4_sideboard 84 = .ok (.pop, 1) := by decide +kernel
theorem dX4_sideboard_85 : decode cX4_sideboard 85 = .ok (.iinc 1 1, 3) := by decide +kernel
theorem dX4_sideboard_88 : decode cX4_sideboard 88 = .ok (.goto (-67), 3) := by decide +kernel
theorem dX4_sideboard_91 : decode cX4_sideboard 91 = .ok (.aload_n 0, 1) := by decide +kernel
theorem dX4_sideboard_92 : decode cX4_sideboard 92 = .ok (.getfield 81, 3) := by decide +kernel
theorem dX4_sideboard_95 : decode cX4_sideboard 95 = .ok (.bipush (-9), 2) := by decide +kernel
theorem dX4_sideboard_97 : decode cX4_sideboard 97 = .ok (.if_icmp .eq 11, 3) := by decide +kernel
theorem dX4_sideboard_100 : decode cX4_sideboard 100 = .ok (.bipush (-10), 2) := by decide +kernel
theorem dX4_sideboard_102 : decode cX4_sideboard 102 = .ok (.aload_n 0, 1) := by decide +kernel
theorem dX4_sideboard_103 : decode cX4_sideboard 103 = .ok (.getfield 81, 3) := by decide +kernel
theorem dX4_sideboard_106 : decode cX4_sideboard 106 = .ok (.isub, 1) := by decide +kernel
theorem dX4_sideboard_107 : decode cX4_sideboard 107 = .ok (.ireturn, 1) := by decide +kernel
theorem dX4_sideboard_108 : decode cX4_sideboard 108 = .ok (.aload_n 0, 1) := by decide +kernel
theorem dX4_sideboard_109 : decode cX4_sideboard 109 = .ok (.invokevirtual 54, 3) := by decide +kernel
theorem dX4_sideboard_112 : decode cX4_sideboard 112 = .ok (.aload_n 0, 1) := by decide +kernel
theorem dX4_sideboard_113 : decode cX4_sideboard 113 = .ok (.iconst 0, 1) := by decide +kernel
theorem dX4_sideboard_114 : decode cX4_sideboard 114 = .ok (.putfield 61, 3) := by decide +kernel
theorem dX4_sideboard_117 : decode cX4_sideboard 117 = .ok (.iload_n 1, 1) := by decide +kernel
theorem dX4_sideboard_118 : decode cX4_sideboard 118 = .ok (.ireturn, 1) := by decide +kernel
theorem dX4_isDecanter_0 : decode cX4_isDecanter 0 = .ok (.iload_n 1, 1) := by decide +kernel
theorem dX4_isDecanter_1 : decode cX4_isDecanter 1 = .ok (.iconst 0, 1) := by decide +kernel
theorem dX4_isDecanter_2 : decode cX4_isDecanter 2 = .ok (.aload_n 0, 1) := by decide +kernel
theorem dX4_isDecanter_3 : decode cX4_isDecanter 3 = .ok (.getfield 13, 3) := by decide +kernel
theorem dX4_isDecanter_6 : decode cX4_isDecanter 6 = .ok (.iconst 0, 1) := by decide +kernel
theorem dX4_isDecanter_7 : decode cX4_isDecanter 7 = .ok (.iaload, 1) := by decide +kernel
theorem dX4_isDecanter_8 : decode cX4_isDecanter 8 = .ok (.iconst 1, 1) := by decide +kernel
theorem dX4_isDecanter_9 : decode cX4_isDecanter 9 = .ok (.isub, 1) := by decide +kernel
theorem dX4_isDecanter_10 : decode cX4_isDecanter 10 = .ok (.invokestatic 57, 3) := by decide +kernel
theorem dX4_isDecanter_13 : decode cX4_isDecanter 13 = .ok (.ireturn, 1) := by decide +kernel
theorem dX4_isAct_0 : decode cX4_isAct 0 = .ok (.iload_n 1, 1) := by decide +kernel
theorem dX4_isAct_1 : decode cX4_isAct 1 = .ok (.iconst 0, 1) := by decide +kernel
theorem dX4_isAct_2 : decode cX4_isAct 2 = .ok (.aload_n 0, 1) := by decide +kernel
theorem dX4_isAct_3 : decode cX4_isAct 3 = .ok (.getfield 26, 3) := by decide +kernel
theorem dX4_isAct_6 : decode cX4_isAct 6 = .ok (.iconst 0, 1) := by decide +kernel
theorem dX4_isAct_7 : decode cX4_isAct 7 = .ok (.iaload, 1) := by decide +kernel
theorem dX4_isAct_8 : decode cX4_isAct 8 = .ok (.iconst 1, 1) := by decide +kernel
theorem dX4_isAct_9 : decode cX4_isAct 9 = .ok (.isub, 1) := by decide +kernel
theorem dX4_isAct_10 : decode cX4_isAct 10 = .ok (.invokestatic 57, 3) := by decide +kernel
theorem dX4_isAct_13 : decode cX4_isAct 13 = .ok (.ireturn, 1) := by decide +kernel
theorem dX4_isDone_0 : decode cX4_isDone 0 = .ok (.aload_n 0, 1) := by decide +kernel
theorem dX4_isDone_1 : decode cX4_isDone 1 = .ok (.getfield 35, 3) := by decide +kernel
theorem dX4_isDone_4 : decode cX4_isDone 4 = .ok (.bipush 19, 2) := by decide +kernel
theorem dX4_isDone_6 : decode cX4_isDone 6 = .ok (.iaload, 1) := by decide +kernel
theorem dX4_isDone_7 : decode cX4_isDone 7 = .ok (.iload_n 1, 1) := by decide +kernel
theorem dX4_isDone_8 : decode cX4_isDone 8 = .ok (.ishr, 1) := by decide +kernel
theorem dX4_isDone_9 : decode cX4_isDone 9 = .ok (.iconst 1, 1) := by decide +kernel
theorem dX4_isDone_10 : decode cX4_isDone 10 = .ok (.iand, 1) := by decide +kernel
theorem dX4_isDone_11 : decode cX4_isDone 11 = .ok (.iconst 1, 1) := by decide +kernel
theorem dX4_isDone_12 : decode cX4_isDone 12 = .ok (.if_icmp .ne 7, 3) := by decide +kernel
theorem dX4_isDone_15 : decode cX4_isDone 15 = .ok (.iconst 1, 1) := by decide +kernel
theorem dX4_isDone_16 : decode cX4_isDone 16 = .ok (.goto 4, 3) := by decide +kernel
theorem dX4_isDone_19 : decode cX4_isDone 19 = .ok (.iconst 0, 1) := by decide +kernel
theorem dX4_isDone_20 : decode cX4_isDone 20 = .ok (.ireturn, 1) := by decide +kernel
theorem dX4_needOf_0 : decode cX4_needOf 0 = .ok (.aload_n 0, 1) := by decide +kernel
theorem dX4_needOf_1 : decode cX4_needOf 1 = .ok (.getfield 32, 3) := by decide +kernel
theorem dX4_needOf_4 : decode cX4_needOf 4 = .ok (.bipush 6, 2) := by decide +kernel
theorem dX4_needOf_6 : decode cX4_needOf 6 = .ok (.iload_n 1, 1) := by decide +kernel
theorem dX4_needOf_7 : decode cX4_needOf 7 = .ok (.imul, 1) := by decide +kernel
theorem dX4_needOf_8 : decode cX4_needOf 8 = .ok (.iload_n 2, 1) := by decide +kernel
theorem dX4_needOf_9 : decode cX4_needOf 9 = .ok (.iadd, 1) := by decide +kernel
theorem dX4_needOf_10 : decode cX4_needOf 10 = .ok (.iaload, 1) := by decide +kernel
theorem dX4_needOf_11 : decode cX4_needOf 11 = .ok (.ireturn, 1) := by decide +kernel
theorem dX4_with_0 : decode cX4_with 0 = .ok (.iconst 0, 1) := by decide +kernel
theorem dX4_with_1 : decode cX4_with 1 = .ok (.istore_n 2, 1) := by decide +kernel
theorem dX4_with_2 : decode cX4_with 2 = .ok (.aload_n 0, 1) := by decide +kernel
theorem dX4_with_3 : decode cX4_with 3 = .ok (.getfield 35, 3) := by decide +kernel
theorem dX4_with_6 : decode cX4_with 6 = .ok (.bipush 12, 2) := by decide +kernel
theorem dX4_with_8 : decode cX4_with 8 = .ok (.iload_n 2, 1) := by decide +kernel
theorem dX4_with_9 : decode cX4_with 9 = .ok (.iadd, 1) := by decide +kernel
theorem dX4_with_10 : decode cX4_with 10 = .ok (.iaload, 1) := by decide +kernel
theorem dX4_with_11 : decode cX4_with 11 = .ok (.iload_n 1, 1) := by decide +kernel
theorem dX4_with_12 : decode cX4_with 12 = .ok (.if_icmp .eq 9, 3) := by decide +kernel
theorem dX4_with_15 : decode cX4_with 15 = .ok (.iinc 2 1, 3) := by decide +kernel
theorem dX4_with_18 : decode cX4_with 18 = .ok (.goto (-16), 3) := by decide +kernel
theorem dX4_with_21 : decode cX4_with 21 = .ok (.iload_n 2, 1) := by decide +kernel
theorem dX4_with_22 : decode cX4_with 22 = .ok (.ireturn, 1) := by decide +kernel
theorem dX4_levelIn_0 : decode cX4_levelIn 0 = .ok (.aload_n 0, 1) := by decide +kernel
theorem dX4_levelIn_1 : decode cX4_levelIn 1 = .ok (.getfield 35, 3) := by decide +kernel
theorem dX4_levelIn_4 : decode cX4_levelIn 4 = .ok (.iload_n 1, 1) := by decide +kernel
theorem dX4_levelIn_5 : decode cX4_levelIn 5 = .ok (.iaload, 1) := by decide +kernel
theorem dX4_levelIn_6 : decode cX4_levelIn 6 = .ok (.iload_n 2, 1) := by decide +kernel
theorem dX4_levelIn_7 : decode cX4_levelIn 7 = .ok (.aload_n 0, 1) := by decide +kernel
theorem dX4_levelIn_8 : decode cX4_levelIn 8 = .ok (.getfield 23, 3) := by decide +kernel
theorem dX4_levelIn_11 : decode cX4_levelIn 11 = .ok (.iload_n 1, 1) := by decide +kernel
theorem dX4_levelIn_12 : decode cX4_levelIn 12 = .ok (.iaload, 1) := by decide +kernel
theorem dX4_levelIn_13 : decode cX4_levelIn 13 = .ok (.imul, 1) := by decide +kernel
theorem dX4_levelIn_14 : decode cX4_levelIn 14 = .ok (.isub, 1) := by decide +kernel
theorem dX4_levelIn_15 : decode cX4_levelIn 15 = .ok (.istore_n 3, 1) := by decide +kernel
theorem dX4_levelIn_16 : decode cX4_levelIn 16 = .ok (.iload_n 3, 1) := by decide +kernel
theorem dX4_levelIn_17 : decode cX4_levelIn 17 = .ok (.ifCond .ge 7, 3) := by decide +kernel
theorem dX4_levelIn_20 : decode cX4_levelIn 20 = .ok (.iconst 0, 1) := by decide +kernel
theorem dX4_levelIn_21 : decode cX4_levelIn 21 = .ok (.goto 4, 3) := by decide +kernel
theorem dX4_levelIn_24 : decode cX4_levelIn 24 = .ok (.iload_n 3, 1) := by decide +kernel
theorem dX4_levelIn_25 : decode cX4_levelIn 25 = .ok (.ireturn, 1) := by decide +kernel
theorem dX4_can_0 : decode cX4_can 0 = .ok (.iconst 1, 1) := by decide +kernel
theorem dX4_can_1 : decode cX4_can 1 = .ok (.istore_n 3, 1) := by decide +kernel
theorem dX4_can_2 : decode cX4_can 2 = .ok (.iconst 0, 1) := by decide +kernel
theorem dX4_can_3 : decode cX4_can 3 = .ok (.istore 4, 2) := by decide +kernel
theorem dX4_can_5 : decode cX4_can 5 = .ok (.iload 4, 2) := by decide +kernel
theorem dX4_can_7 : decode cX4_can 7 = .ok (.aload_n 0, 1) := by decide +kernel
theorem dX4_can_8 : decode cX4_can 8 = .ok (.getfield 13, 3) := by decide +kernel
theorem dX4_can_11 : decode cX4_can 11 = .ok (.iconst 0, 1) := by decide +kernel
theorem dX4_can_12 : decode cX4_can 12 = .ok (.iaload, 1) := by decide +kernel
theorem dX4_can_13 : decode cX4_can 13 = .ok (.if_icmp .ge 40, 3) := by decide +kernel
theorem dX4_can_16 : decode cX4_can 16 = .ok (.iload_n 3, 1) := by decide +kernel
theorem dX4_can_17 : decode cX4_can 17 = .ok (.ifCond .eq 28, 3) := by decide +kernel
theorem dX4_can_20 : decode cX4_can 20 = .ok (.aload_n 0, 1) := by decide +kernel
theorem dX4_can_21 : decode cX4_can 21 = .ok (.aload_n 0, 1) := by decide +kernel
theorem dX4_can_22 : decode cX4_can 22 = .ok (.iload 4, 2) := by decide +kernel
theorem dX4_can_24 : decode cX4_can 24 = .ok (.invokevirtual 109, 3) := by decide +kernel
theorem dX4_can_27 : decode cX4_can 27 = .ok (.iload_n 2, 1) := by decide +kernel
theorem dX4_can_28 : decode cX4_can 28 = .ok (.invokevirtual 113, 3) := by decide +kernel
theorem dX4_can_31 : decode cX4_can 31 = .ok (.aload_n 0, 1) := by decide +kernel
theorem dX4_can_32 : decode cX4_can 32 = .ok (.iload_n 1, 1) := by decide +kernel
theorem dX4_can_33 : decode cX4_can 33 = .ok (.iload 4, 2) := by decide +kernel
theorem dX4_can_35 : decode cX4_can 35 = .ok (.invokevirtual 116, 3) := by decide +kernel
theorem dX4_can_38 : decode cX4_can 38 = .ok (.if_icmp .lt 7, 3) := by decide +kernel
theorem dX4_can_41 : decode cX4_can 41 = .ok (.iconst 1, 1) := by decide +kernel
theorem dX4_can_42 : decode cX4_can 42 = .ok (.goto 4, 3) := by decide +kernel
theorem dX4_can_45 : decode cX4_can 45 = .ok (.iconst 0, 1) := by decide +kernel
theorem dX4_can_46 : decode cX4_can 46 = .ok (.istore_n 3, 1) := by decide +kernel
theorem dX4_can_47 : decode cX4_can 47 = .ok (.iinc 4 1, 3) := by decide +kernel
theorem dX4_can_50 : decode cX4_can 50 = .ok (.goto (-45), 3) := by decide +kernel
theorem dX4_can_53 : decode cX4_can 53 = .ok (.iload_n 3, 1) := by decide +kernel
theorem dX4_can_54 : decode cX4_can 54 = .ok (.ireturn, 1) := by decide +kernel
theorem dX4_span_0 : decode cX4_span 0 = .ok (.aload_n 0, 1) := by decide +kernel
theorem dX4_span_1 : decode cX4_span 1 = .ok (.getfield 35, 3) := by decide +kernel
theorem dX4_span_4 : decode cX4_span 4 = .ok (.iload_n 1, 1) := by decide +kernel
theorem dX4_span_5 : decode cX4_span 5 = .ok (.iaload, 1) := by decide +kernel
theorem dX4_span_6 : decode cX4_span 6 = .ok (.ifCond .ne 5, 3) := by decide +kernel
theorem dX4_span_9 : decode cX4_span 9 = .ok (.iconst 0, 1) := by decide +kernel
theorem dX4_span_10 : decode cX4_span 10 = .ok (.ireturn, 1) := by decide +kernel
theorem dX4_span_11 : decode cX4_span 11 = .ok (.aload_n 0, 1) := by decide +kernel
theorem dX4_span_12 : decode cX4_span 12 = .ok (.getfield 23, 3) := by decide +kernel
theorem dX4_span_15 : decode cX4_span 15 = .ok (.iload_n 1, 1) := by decide +kernel
theorem dX4_span_16 : decode cX4_span 16 = .ok (.iaload, 1) := by decide +kernel
theorem dX4_span_17 : decode cX4_span 17 = .ok (.ifCond .ne 8, 3) := by decide +kernel
theorem dX4_span_20 : decode cX4_span 20 = .ok (.bipush (-9), 2) := by decide +kernel
theorem dX4_span_22 : decode cX4_span 22 = .ok (.goto 25, 3) := by decide +kernel
theorem dX4_span_25 : decode cX4_span 25 = .ok (.aload_n 0, 1) := by decide +kernel
theorem dX4_span_26 : decode cX4_span 26 = .ok (.getfield 35, 3) := by decide +kernel
theorem dX4_span_29 : decode cX4_span 29 = .ok (.iload_n 1, 1) := by decide +kernel
theorem dX4_span_30 : decode cX4_span 30 = .ok (.iaload, 1) := by decide +kernel
theorem dX4_span_31 : decode cX4_span 31 = .ok (.aload_n 0, 1) := by decide +kernel
theorem dX4_span_32 : decode cX4_span 32 = .ok (.getfield 23, 3) := by decide +kernel
theorem dX4_span_35 : decode cX4_span 35 = .ok (.iload_n 1, 1) := by decide +kernel
theorem dX4_span_36 : decode cX4_span 36 = .ok (.iaload, 1) := by decide +kernel
theorem dX4_span_37 : decode cX4_span 37 = .ok (.iadd, 1) := by decide +kernel
theorem dX4_span_38 : decode cX4_span 38 = .ok (.iconst 1, 1) := by decide +kernel
theorem dX4_span_39 : decode cX4_span 39 = .ok (.isub, 1) := by decide +kernel
theorem dX4_span_40 : decode cX4_span 40 = .ok (.aload_n 0, 1) := by decide +kernel
theorem dX4_span_41 : decode cX4_span 41 = .ok (.getfield 23, 3) := by decide +kernel
theorem dX4_span_44 : decode cX4_span 44 = .ok (.iload_n 1, 1) := by decide +kernel
theorem dX4_span_45 : decode cX4_span 45 = .ok (.iaload, 1) := by decide +kernel
theorem dX4_span_46 : decode cX4_span 46 = .ok (.idiv, 1) := by decide +kernel
theorem dX4_span_47 : decode cX4_span 47 = .ok (.ireturn, 1) := by decide +kernel
theorem dX4_lastOf_0 : decode cX4_lastOf 0 = .ok (.aload_n 0, 1) := by decide +kernel
theorem dX4_lastOf_1 : decode cX4_lastOf 1 = .ok (.iload_n 1, 1) := by decide +kernel
theorem dX4_lastOf_2 : decode cX4_lastOf 2 = .ok (.invokevirtual 119, 3) := by decide +kernel
theorem dX4_lastOf_5 : decode cX4_lastOf 5 = .ok (.ifCond .ne 12, 3) := by decide +kernel
theorem dX4_lastOf_8 : decode cX4_lastOf 8 = .ok (.aload_n 0, 1) := by decide +kernel
theorem dX4_lastOf_9 : decode cX4_lastOf 9 = .ok (.iload_n 1, 1) := by decide +kernel
theorem dX4_lastOf_10 : decode cX4_lastOf 10 = .ok (.iconst 0, 1) := by decide +kernel
theorem dX4_lastOf_11 : decode cX4_lastOf 11 = .ok (.invokevirtual 122, 3) := by decide +kernel
theorem dX4_lastOf_14 : decode cX4_lastOf 14 = .ok (.ifCond .ne 6, 3) := by decide +kernel
theorem dX4_lastOf_17 : decode cX4_lastOf 17 = .ok (.bipush (-9), 2) := by decide +kernel
theorem dX4_lastOf_19 : decode cX4_lastOf 19 = .ok (.ireturn, 1) := by decide +kernel
theorem dX4_lastOf_20 : decode cX4_lastOf 20 = .ok (.iconst 0, 1) := by decide +kernel
theorem dX4_lastOf_21 : decode cX4_lastOf 21 = .ok (.istore_n 2, 1) := by decide +kernel
theorem dX4_lastOf_22 : decode cX4_lastOf 22 = .ok (.iload_n 2, 1) := by decide +kernel
theorem dX4_lastOf_23 : decode cX4_lastOf 23 = .ok (.bipush 60, 2) := by decide +kernel
theorem dX4_lastOf_25 : decode cX4_lastOf 25 = .ok (.if_icmp .ge 20, 3) := by decide +kernel
theorem dX4_lastOf_28 : decode cX4_lastOf 28 = .ok (.aload_n 0, 1) := by decide +kernel
theorem dX4_lastOf_29 : decode cX4_lastOf 29 = .ok (.iload_n 1, 1) := by decide +kernel
theorem dX4_lastOf_30 : decode cX4_lastOf 30 = .ok (.iload_n 2, 1) := by decide +kernel
theorem dX4_lastOf_31 : decode cX4_lastOf 31 = .ok (.iconst 1, 1) := by decide +kernel
theorem dX4_lastOf_32 : decode cX4_lastOf 32 = .ok (.iadd, 1) := by decide +kernel
theorem dX4_lastOf_33 : decode cX4_lastOf 33 = .ok (.invokevirtual 122, 3) := by decide +kernel
theorem dX4_lastOf_36 : decode cX4_lastOf 36 = .ok (.ifCond .eq 9, 3) := by decide +kernel
theorem dX4_lastOf_39 : decode cX4_lastOf 39 = .ok (.iinc 2 1, 3) := by decide +kernel
theorem dX4_lastOf_42 : decode cX4_lastOf 42 = .ok (.goto (-20), 3) := by decide +kernel
theorem dX4_lastOf_45 : decode cX4_lastOf 45 = .ok (.iload_n 2, 1) := by decide +kernel
theorem dX4_lastOf_46 : decode cX4_lastOf 46 = .ok (.ireturn, 1) := by decide +kernel
theorem dX4_qualities_0 : decode cX4_qualities 0 = .ok (.iconst 0, 1) := by decide +kernel
theorem dX4_qualities_1 : decode cX4_qualities 1 = .ok (.istore_n 2, 1) := by decide +kernel
theorem dX4_qualities_2 : decode cX4_qualities 2 = .ok (.iconst 0, 1) := by decide +kernel
theorem dX4_qualities_3 : decode cX4_qualities 3 = .ok (.istore_n 3, 1) := by decide +kernel
theorem dX4_qualities_4 : decode cX4_qualities 4 = .ok (.iload_n 3, 1) := by decide +kernel
theorem dX4_qualities_5 : decode cX4_qualities 5 = .ok (.aload_n 0, 1) := by decide +kernel
theorem dX4_qualities_6 : decode cX4_qualities 6 = .ok (.getfield 13, 3) := by decide +kernel
theorem dX4_qualities_9 : decode cX4_qualities 9 = .ok (.iconst 0, 1) := by decide +kernel
theorem dX4_qualities_10 : decode cX4_qualities 10 = .ok (.iaload, 1) := by decide +kernel
theorem dX4_qualities_11 : decode cX4_qualities 11 = .ok (.if_icmp .ge 28, 3) := by decide +kernel
theorem dX4_qualities_14 : decode cX4_qualities 14 = .ok (.iload_n 2, 1) := by decide +kernel
theorem dX4_qualities_15 : decode cX4_qualities 15 = .ok (.aload_n 0, 1) := by decide +kernel
theorem dX4_qualities_16 : decode cX4_qualities 16 = .ok (.iload_n 1, 1) := by decide +kernel
theorem dX4_qualities_17 : decode cX4_qualities 17 = .ok (.iload_n 3, 1) := by decide +kernel
theorem dX4_qualities_18 : decode cX4_qualities 18 = .ok (.invokevirtual 116, 3) := by decide +kernel
theorem dX4_qualities_21 : decode cX4_qualities 21 = .ok (.ifCond .le 9, 3) := by decide +kernel
theorem dX4_qualities_24 : decode cX4_qualities 24 = .ok (.iconst 1, 1) := by decide +kernel
theorem dX4_qualities_25 : decode cX4_qualities 25 = .ok (.iload_n 3, 1) := by decide +kernel
theorem dX4_qualities_26 : decode cX4_qualities 26 = .ok (.ishl, 1) := by decide +kernel
theorem dX4_qualities_27 : decode cX4_qualities 27 = .ok (.goto 4, 3) := by decide +kernel
theorem dX4_qualities_30 : decode cX4_qualities 30 = .ok (.iconst 0, 1) := by decide +kernel
theorem dX4_qualities_31 : decode cX4_qualities 31 = .ok (.ior, 1) := by decide +kernel
theorem dX4_qualities_32 : decode cX4_qualities 32 = .ok (.istore_n 2, 1) := by decide +kernel
theorem dX4_qualities_33 : decode cX4_qualities 33 = .ok (.iinc 3 1, 3) := by decide +kernel
theorem dX4_qualities_36 : decode cX4_qualities 36 = .ok (.goto (-32), 3) := by decide +kernel
theorem dX4_qualities_39 : decode cX4_qualities 39 = .ok (.iload_n 2, 1) := by decide +kernel
theorem dX4_qualities_40 : decode cX4_qualities 40 = .ok (.ireturn, 1) := by decide +kernel
theorem dX4_manyOf_0 : decode cX4_manyOf 0 = .ok (.iconst 0, 1) := by decide +kernel
theorem dX4_manyOf_1 : decode cX4_manyOf 1 = .ok (.istore_n 1, 1) := by decide +kernel
theorem dX4_manyOf_2 : decode cX4_manyOf 2 = .ok (.iconst 0, 1) := by decide +kernel
theorem dX4_manyOf_3 : decode cX4_manyOf 3 = .ok (.istore_n 2, 1) := by decide +kernel
theorem dX4_manyOf_4 : decode cX4_manyOf 4 = .ok (.iload_n 2, 1) := by decide +kernel
theorem dX4_manyOf_5 : decode cX4_manyOf 5 = .ok (.bipush 6, 2) := by decide +kernel
theorem dX4_manyOf_7 : decode cX4_manyOf 7 = .ok (.if_icmp .ge 17, 3) := by decide +kernel
theorem dX4_manyOf_10 : decode cX4_manyOf 10 = .ok (.iload_n 1, 1) := by decide +kernel
theorem dX4_manyOf_11 : decode cX4_manyOf 11 = .ok (.iload_n 0, 1) := by decide +kernel
theorem dX4_manyOf_12 : decode cX4_manyOf 12 = .ok (.iload_n 2, 1) := by decide +kernel
theorem dX4_manyOf_13 : decode cX4_manyOf 13 = .ok (.ishr, 1) := by decide +kernel
theorem dX4_manyOf_14 : decode cX4_manyOf 14 = .ok (.iconst 1, 1) := by decide +kernel
theorem dX4_manyOf_15 : decode cX4_manyOf 15 = .ok (.iand, 1) := by decide +kernel
theorem dX4_manyOf_16 : decode cX4_manyOf 16 = .ok (.iadd, 1) := by decide +kernel
theorem dX4_manyOf_17 : decode cX4_manyOf 17 = .ok (.istore_n 1, 1) := by decide +kernel
theorem dX4_manyOf_18 : decode cX4_manyOf 18 = .ok (.iinc 2 1, 3) := by decide +kernel
theorem dX4_manyOf_21 : decode cX4_manyOf 21 = .ok (.goto (-17), 3) := by decide +kernel
theorem dX4_manyOf_24 : decode cX4_manyOf 24 = .ok (.iload_n 1, 1) := by decide +kernel
theorem dX4_manyOf_25 : decode cX4_manyOf 25 = .ok (.ireturn, 1) := by decide +kernel
theorem dX4_decanter_0 : decode cX4_decanter 0 = .ok (.aload_n 0, 1) := by decide +kernel
theorem dX4_decanter_1 : decode cX4_decanter 1 = .ok (.iload_n 1, 1) := by decide +kernel
theorem dX4_decanter_2 : decode cX4_decanter 2 = .ok (.invokevirtual 126, 3) := by decide +kernel
theorem dX4_decanter_5 : decode cX4_decanter 5 = .ok (.ifCond .ne 5, 3) := by decide +kernel
theorem dX4_decanter_8 : decode cX4_decanter 8 = .ok (.iconst (-1), 1) := by decide +kernel
theorem dX4_decanter_9 : decode cX4_decanter 9 = .ok (.ireturn, 1) := by decide +kernel
theorem dX4_decanter_10 : decode cX4_decanter 10 = .ok (.iload_n 2, 1) := by decide +kernel
theorem dX4_decanter_11 : decode cX4_decanter 11 = .ok (.tableswitch 73 0 4 #[33, 40, 47, 57, 67], 33) := by decide +kernel
theorem dX4_decanter_44 : decode cX4_decanter 44 = .ok (.aload_n 0, 1) := by decide +kernel
theorem dX4_decanter_45 : decode cX4_decanter 45 = .ok (.getfield 35, 3) := by decide +kernel
theorem dX4_decanter_48 : decode cX4_decanter 48 = .ok (.iload_n 1, 1) := by decide +kernel
theorem dX4_decanter_49 : decode cX4_decanter 49 = .ok (.iaload, 1) := by decide +kernel
theorem dX4_decanter_50 : decode cX4_decanter 50 = .ok (.ireturn, 1) := by decide +kernel
theorem dX4_decanter_51 : decode cX4_decanter 51 = .ok (.aload_n 0, 1) := by decide +kernel
theorem dX4_decanter_52 : decode cX4_decanter 52 = .ok (.getfield 23, 3) := by decide +kernel
theorem dX4_decanter_55 : decode cX4_decanter 55 = .ok (.iload_n 1, 1) := by decide +kernel
theorem dX4_decanter_56 : decode cX4_decanter 56 = .ok (.iaload, 1) := by decide +kernel
theorem dX4_decanter_57 : decode cX4_decanter 57 = .ok (.ireturn, 1) := by decide +kernel
theorem dX4_decanter_58 : decode cX4_decanter 58 = .ok (.aload_n 0, 1) := by decide +kernel
theorem dX4_decanter_59 : decode cX4_decanter 59 = .ok (.getfield 35, 3) := by decide +kernel
theorem dX4_decanter_62 : decode cX4_decanter 62 = .ok (.bipush 6, 2) := by decide +kernel
theorem dX4_decanter_64 : decode cX4_decanter 64 = .ok (.iload_n 1, 1) := by decide +kernel
theorem dX4_decanter_65 : decode cX4_decanter 65 = .ok (.iadd, 1) := by decide +kernel
theorem dX4_decanter_66 : decode cX4_decanter 66 = .ok (.iaload, 1) := by decide +kernel
theorem dX4_decanter_67 : decode cX4_decanter 67 = .ok (.ireturn, 1) := by decide +kernel
theorem dX4_decanter_68 : decode cX4_decanter 68 = .ok (.aload_n 0, 1) := by decide +kernel
theorem dX4_decanter_69 : decode cX4_decanter 69 = .ok (.getfield 35, 3) := by decide +kernel
theorem dX4_decanter_72 : decode cX4_decanter 72 = .ok (.bipush 12, 2) := by decide +kernel
theorem dX4_decanter_74 : decode cX4_decanter 74 = .ok (.iload_n 1, 1) := by decide +kernel
theorem dX4_decanter_75 : decode cX4_decanter 75 = .ok (.iadd, 1) := by decide +kernel
theorem dX4_decanter_76 : decode cX4_decanter 76 = .ok (.iaload, 1) := by decide +kernel
theorem dX4_decanter_77 : decode cX4_decanter 77 = .ok (.ireturn, 1) := by decide +kernel
theorem dX4_decanter_78 : decode cX4_decanter 78 = .ok (.aload_n 0, 1) := by decide +kernel
theorem dX4_decanter_79 : decode cX4_decanter 79 = .ok (.iload_n 1, 1) := by decide +kernel
theorem dX4_decanter_80 : decode cX4_decanter 80 = .ok (.invokevirtual 129, 3) := by decide +kernel
theorem dX4_decanter_83 : decode cX4_decanter 83 = .ok (.ireturn, 1) := by decide +kernel
theorem dX4_decanter_84 : decode cX4_decanter 84 = .ok (.iconst (-1), 1) := by decide +kernel
theorem dX4_decanter_85 : decode cX4_decanter 85 = .ok (.ireturn, 1) := by decide +kernel
theorem dX4_act_0 : decode cX4_act 0 = .ok (.aload_n 0, 1) := by decide +kernel
theorem dX4_act_1 : decode cX4_act 1 = .ok (.iload_n 1, 1) := by decide +kernel
theorem dX4_act_2 : decode cX4_act 2 = .ok (.invokevirtual 132, 3) := by decide +kernel
theorem dX4_act_5 : decode cX4_act 5 = .ok (.ifCond .ne 5, 3) := by decide +kernel
theorem dX4_act_8 : decode cX4_act 8 = .ok (.iconst (-1), 1) := by decide +kernel
theorem dX4_act_9 : decode cX4_act 9 = .ok (.ireturn, 1) := by decide +kernel
theorem dX4_act_10 : decode cX4_act 10 = .ok (.iload_n 2, 1) := by decide +kernel
theorem dX4_act_11 : decode cX4_act 11 = .ok (.tableswitch 62 0 3 #[29, 36, 42, 56], 29) := by decide +kernel
theorem dX4_act_40 : decode cX4_act 40 = .ok (.aload_n 0, 1) := by decide +kernel
theorem dX4_act_41 : decode cX4_act 41 = .ok (.getfield 29, 3) := by decide +kernel
theorem dX4_act_44 : decode cX4_act 44 = .ok (.iload_n 1, 1) := by decide +kernel
theorem dX4_act_45 : decode cX4_act 45 = .ok (.iaload, 1) := by decide +kernel
theorem dX4_act_46 : decode cX4_act 46 = .ok (.ireturn, 1) := by decide +kernel
theorem dX4_act_47 : decode cX4_act 47 = .ok (.aload_n 0, 1) := by decide +kernel
theorem dX4_act_48 : decode cX4_act 48 = .ok (.iload_n 1, 1) := by decide +kernel
theorem dX4_act_49 : decode cX4_act 49 = .ok (.invokevirtual 135, 3) := by decide +kernel
theorem dX4_act_52 : decode cX4_act 52 = .ok (.ireturn, 1) := by decide +kernel
theorem dX4_act_53 : decode cX4_act 53 = .ok (.aload_n 0, 1) := by decide +kernel
theorem dX4_act_54 : decode cX4_act 54 = .ok (.iload_n 1, 1) := by decide +kernel
theorem dX4_act_55 : decode cX4_act 55 = .ok (.invokevirtual 119, 3) := by decide +kernel
theorem dX4_act_58 : decode cX4_act 58 = .ok (.ifCond .eq 7, 3) := by decide +kernel
theorem dX4_act_61 : decode cX4_act 61 = .ok (.iconst 1, 1) := by decide +kernel
theorem dX4_act_62 : decode cX4_act 62 = .ok (.goto 4, 3) := by decide +kernel
theorem dX4_act_65 : decode cX4_act 65 = .ok (.iconst 0, 1) := by decide +kernel
theorem dX4_act_66 : decode cX4_act 66 = .ok (.ireturn, 1) := by decide +kernel
theorem dX4_act_67 : decode cX4_act 67 = .ok (.aload_n 0, 1) := by decide +kernel
theorem dX4_act_68 : decode cX4_act 68 = .ok (.iload_n 1, 1) := by decide +kernel
theorem dX4_act_69 : decode cX4_act 69 = .ok (.invokevirtual 138, 3) := by decide +kernel
theorem dX4_act_72 : decode cX4_act 72 = .ok (.ireturn, 1) := by decide +kernel
theorem dX4_act_73 : decode cX4_act 73 = .ok (.iconst (-1), 1) := by decide +kernel
theorem dX4_act_74 : decode cX4_act 74 = .ok (.ireturn, 1) := by decide +kernel
theorem dX4_needs_0 : decode cX4_needs 0 = .ok (.aload_n 0, 1) := by decide +kernel
theorem dX4_needs_1 : decode cX4_needs 1 = .ok (.iload_n 1, 1) := by decide +kernel
theorem dX4_needs_2 : decode cX4_needs 2 = .ok (.invokevirtual 132, 3) := by decide +kernel
theorem dX4_needs_5 : decode cX4_needs 5 = .ok (.ifCond .eq 20, 3) := by decide +kernel
theorem dX4_needs_8 : decode cX4_needs 8 = .ok (.aload_n 0, 1) := by decide +kernel
theorem dX4_needs_9 : decode cX4_needs 9 = .ok (.iload_n 2, 1) := by decide +kernel
theorem dX4_needs_10 : decode cX4_needs 10 = .ok (.invokevirtual 126, 3) := by decide +kernel
theorem dX4_needs_13 : decode cX4_needs 13 = .ok (.ifCond .eq 12, 3) := by decide +kernel
theorem dX4_needs_16 : decode cX4_needs 16 = .ok (.aload_n 0, 1) := by decide +kernel
theorem dX4_needs_17 : decode cX4_needs 17 = .ok (.iload_n 1, 1) := by decide +kernel
theorem dX4_needs_18 : decode cX4_needs 18 = .ok (.iload_n 2, 1) := by decide +kernel
theorem dX4_needs_19 : decode cX4_needs 19 = .ok (.invokevirtual 116, 3) := by decide +kernel
theorem dX4_needs_22 : decode cX4_needs 22 = .ok (.goto 4, 3) := by decide +kernel
theorem dX4_needs_25 : decode cX4_needs 25 = .ok (.iconst (-1), 1) := by decide +kernel
theorem dX4_needs_26 : decode cX4_needs 26 = .ok (.ireturn, 1) := by decide +kernel
theorem dX4_know_0 : decode cX4_know 0 = .ok (.aload_n 0, 1) := by decide +kernel
theorem dX4_know_1 : decode cX4_know 1 = .ok (.getfield 35, 3) := by decide +kernel
theorem dX4_know_4 : decode cX4_know 4 = .ok (.bipush 22, 2) := by decide +kernel
theorem dX4_know_6 : decode cX4_know 6 = .ok (.iaload, 1) := by decide +kernel
theorem dX4_know_7 : decode cX4_know 7 = .ok (.bipush 10, 2) := by decide +kernel
theorem dX4_know_9 : decode cX4_know 9 = .ok (.if_icmp .ne 47, 3) := by decide +kernel
theorem dX4_know_12 : decode cX4_know 12 = .ok (.iconst 0, 1) := by decide +kernel
theorem dX4_know_13 : decode cX4_know 13 = .ok (.istore_n 1, 1) := by decide +kernel
theorem dX4_know_14 : decode cX4_know 14 = .ok (.iload_n 1, 1) := by decide +kernel
theorem dX4_know_15 : decode cX4_know 15 = .ok (.sipush 198, 3) := by decide +kernel
theorem dX4_know_18 : decode cX4_know 18 = .ok (.if_icmp .ge 27, 3) := by decide +kernel
theorem dX4_know_21 : decode cX4_know 21 = .ok (.aload_n 0, 1) := by decide +kernel
theorem dX4_know_22 : decode cX4_know 22 = .ok (.getfield 35, 3) := by decide +kernel
theorem dX4_know_25 : decode cX4_know 25 = .ok (.bipush 23, 2) := by decide +kernel
theorem dX4_know_27 : decode cX4_know 27 = .ok (.iload_n 1, 1) := by decide +kernel
theorem dX4_know_28 : decode cX4_know 28 = .ok (.iadd, 1) := by decide +kernel
theorem dX4_know_29 : decode cX4_know 29 = .ok (.aload_n 0, 1) := by decide +kernel
theorem dX4_know_30 : decode cX4_know 30 = .ok (.getfield 35, 3) := by decide +kernel
theorem dX4_know_33 : decode cX4_know 33 = .ok (.bipush 45, 2) := by decide +kernel
theorem dX4_know_35 : decode cX4_know 35 = .ok (.iload_n 1, 1) := by decide +kernel
theorem dX4_know_36 : decode cX4_know 36 = .ok (.iadd, 1) := by decide +kernel
theorem dX4_know_37 : decode cX4_know 37 = .ok (.iaload, 1) := by decide +kernel
theorem dX4_know_38 : decode cX4_know 38 = .ok (.iastore, 1) := by decide +kernel
theorem dX4_know_39 : decode cX4_know 39 = .ok (.iinc 1 1, 3) := by decide +kernel
theorem dX4_know_42 : decode cX4_know 42 = .ok (.goto (-28), 3) := by decide +kernel
theorem dX4_know_45 : decode cX4_know 45 = .ok (.aload_n 0, 1) := by decide +kernel
theorem dX4_know_46 : decode cX4_know 46 = .ok (.getfield 35, 3) := by decide +kernel
theorem dX4_know_49 : decode cX4_know 49 = .ok (.bipush 22, 2) := by decide +kernel
theorem dX4_know_51 : decode cX4_know 51 = .ok (.dup2, 1) := by decide +kernel
theorem dX4_know_52 : decode cX4_know 52 = .ok (.iaload, 1) := by decide +kernel
theorem dX4_know_53 : decode cX4_know 53 = .ok (.iconst 1, 1) := by decide +kernel
theorem dX4_know_54 : decode cX4_know 54 = .ok (.isub, 1) := by decide +kernel
theorem dX4_know_55 : decode cX4_know 55 = .ok (.iastore, 1) := by decide +kernel
theorem dX4_know_56 : decode cX4_know 56 = .ok (.iconst 0, 1) := by decide +kernel
theorem dX4_know_57 : decode cX4_know 57 = .ok (.istore_n 1, 1) := by decide +kernel
theorem dX4_know_58 : decode cX4_know 58 = .ok (.iload_n 1, 1) := by decide +kernel
theorem dX4_know_59 : decode cX4_know 59 = .ok (.bipush 22, 2) := by decide +kernel
theorem dX4_know_61 : decode cX4_know 61 = .ok (.if_icmp .ge 35, 3) := by decide +kernel
theorem dX4_know_64 : decode cX4_know 64 = .ok (.aload_n 0, 1) := by decide +kernel
theorem dX4_know_65 : decode cX4_know 65 = .ok (.getfield 35, 3) := by decide +kernel
theorem dX4_know_68 : decode cX4_know 68 = .ok (.bipush 23, 2) := by decide +kernel
theorem dX4_know_70 : decode cX4_know 70 = .ok (.bipush 22, 2) := by decide +kernel
theorem dX4_know_72 : decode cX4_know 72 = .ok (.aload_n 0, 1) := by decide +kernel
theorem dX4_know_73 : decode cX4_know 73 = .ok (.getfield 35, 3) := by decide +kernel
theorem dX4_know_76 : decode cX4_know 76 = .ok (.bipush 22, 2) := by decide +kernel
theorem dX4_know_78 : decode cX4_know 78 = .ok (.iaload, 1) := by decide +kernel
theorem dX4_know_79 : decode cX4_know 79 = .ok (.imul, 1) := by decide +kernel
theorem dX4_know_80 : decode cX4_know 80 = .ok (.iadd, 1) := by decide +kernel
theorem dX4_know_81 : decode cX4_know 81 = .ok (.iload_n 1, 1) := by decide +kernel
theorem dX4_know_82 : decode cX4_know 82 = .ok (.iadd, 1) := by decide +kernel
theorem dX4_know_83 : decode cX4_know 83 = .ok (.aload_n 0, 1) := by decide +kernel
theorem dX4_know_84 : decode cX4_know 84 = .ok (.getfield 35, 3) := by decide +kernel
theorem dX4_know_87 : decode cX4_know 87 = .ok (.iload_n 1, 1) := by decide +kernel
theorem dX4_know_88 : decode cX4_know 88 = .ok (.iaload, 1) := by decide +kernel
theorem dX4_know_89 : decode cX4_know 89 = .ok (.iastore, 1) := by decide +kernel
theorem dX4_know_90 : decode cX4_know 90 = .ok (.iinc 1 1, 3) := by decide +kernel
theorem dX4_know_93 : decode cX4_know 93 = .ok (.goto (-35), 3) := by decide +kernel
theorem dX4_know_96 : decode cX4_know 96 = .ok (.aload_n 0, 1) := by decide +kernel
theorem dX4_know_97 : decode cX4_know 97 = .ok (.getfield 35, 3) := by decide +kernel
theorem dX4_know_100 : decode cX4_know 100 = .ok (.bipush 22, 2) := by decide +kernel
theorem dX4_know_102 : decode cX4_know 102 = .ok (.dup2, 1) := by decide +kernel
theorem dX4_know_103 : decode cX4_know 103 = .ok (.iaload, 1) := by decide +kernel
theorem dX4_know_104 : decode cX4_know 104 = .ok (.iconst 1, 1) := by decide +kernel
theorem dX4_know_105 : decode cX4_know 105 = .ok (.iadd, 1) := by decide +kernel
theorem dX4_know_106 : decode cX4_know 106 = .ok (.iastore, 1) := by decide +kernel
theorem dX4_know_107 : decode cX4_know 107 = .ok (.return_, 1) := by decide +kernel
theorem dX4_settle_0 : decode cX4_settle 0 = .ok (.iconst 0, 1) := by decide +kernel
theorem dX4_settle_1 : decode cX4_settle 1 = .ok (.istore_n 1, 1) := by decide +kernel
theorem dX4_settle_2 : decode cX4_settle 2 = .ok (.iload_n 1, 1) := by decide +kernel
theorem dX4_settle_3 : decode cX4_settle 3 = .ok (.aload_n 0, 1) := by decide +kernel
theorem dX4_settle_4 : decode cX4_settle 4 = .ok (.getfield 13, 3) := by decide +kernel
theorem dX4_settle_7 : decode cX4_settle 7 = .ok (.iconst 0, 1) := by decide +kernel
theorem dX4_settle_8 : decode cX4_settle 8 = .ok (.iaload, 1) := by decide +kernel
theorem dX4_settle_9 : decode cX4_settle 9 = .ok (.if_icmp .ge 54, 3) := by decide +kernel
theorem dX4_settle_12 : decode cX4_settle 12 = .ok (.aload_n 0, 1) := by decide +kernel
theorem dX4_settle_13 : decode cX4_settle 13 = .ok (.getfield 35, 3) := by decide +kernel
theorem dX4_settle_16 : decode cX4_settle 16 = .ok (.bipush 6, 2) := by decide +kernel
theorem dX4_settle_18 : decode cX4_settle 18 = .ok (.iload_n 1, 1) := by decide +kernel
theorem dX4_settle_19 : decode cX4_settle 19 = .ok (.iadd, 1) := by decide +kernel
theorem dX4_settle_20 : decode cX4_settle 20 = .ok (.aload_n 0, 1) := by decide +kernel
theorem dX4_settle_21 : decode cX4_settle 21 = .ok (.getfield 35, 3) := by decide +kernel
theorem dX4_settle_24 : decode cX4_settle 24 = .ok (.bipush 6, 2) := by decide +kernel
theorem dX4_settle_26 : decode cX4_settle 26 = .ok (.iload_n 1, 1) := by decide +kernel
theorem dX4_settle_27 : decode cX4_settle 27 = .ok (.iadd, 1) := by decide +kernel
theorem dX4_settle_28 : decode cX4_settle 28 = .ok (.iaload, 1) := by decide +kernel
theorem dX4_settle_29 : decode cX4_settle 29 = .ok (.aload_n 0, 1) := by decide +kernel
theorem dX4_settle_30 : decode cX4_settle 30 = .ok (.getfield 35, 3) := by decide +kernel
theorem dX4_settle_33 : decode cX4_settle 33 = .ok (.iload_n 1, 1) := by decide +kernel
theorem dX4_settle_34 : decode cX4_settle 34 = .ok (.iaload, 1) := by decide +kernel
theorem dX4_settle_35 : decode cX4_settle 35 = .ok (.if_icmp .le 12, 3) := by decide +kernel
theorem dX4_settle_38 : decode cX4_settle 38 = .ok (.aload_n 0, 1) := by decide +kernel
theorem dX4_settle_39 : decode cX4_settle 39 = .ok (.getfield 35, 3) := by decide +kernel
theorem dX4_settle_42 : decode cX4_settle 42 = .ok (.iload_n 1, 1) := by decide +kernel
theorem dX4_settle_43 : decode cX4_settle 43 = .ok (.iaload, 1) := by decide +kernel
theorem dX4_settle_44 : decode cX4_settle 44 = .ok (.goto 12, 3) := by decide +kernel
theorem dX4_settle_47 : decode cX4_settle 47 = .ok (.aload_n 0, 1) := by decide +kernel
theorem dX4_settle_48 : decode cX4_settle 48 = .ok (.getfield 35, 3) := by decide +kernel
theorem dX4_settle_51 : decode cX4_settle 51 = .ok (.bipush 6, 2) := by decide +kernel
theorem dX4_settle_53 : decode cX4_settle 53 = .ok (.iload_n 1, 1) := by decide +kernel
theorem dX4_settle_54 : decode cX4_settle 54 = .ok (.iadd, 1) := by decide +kernel
theorem dX4_settle_55 : decode cX4_settle 55 = .ok (.iaload, 1) := by decide +kernel
theorem dX4_settle_56 : decode cX4_settle 56 = .ok (.iastore, 1) := by decide +kernel
theorem dX4_settle_57 : decode cX4_settle 57 = .ok (.iinc 1 1, 3) := by decide +kernel
theorem dX4_settle_60 : decode cX4_settle 60 = .ok (.goto (-58), 3) := by decide +kernel
theorem dX4_settle_63 : decode cX4_settle 63 = .ok (.return_, 1) := by decide +kernel
theorem dX4_pours_0 : decode cX4_pours 0 = .ok (.aload_n 0, 1) := by decide +kernel
theorem dX4_pours_1 : decode cX4_pours 1 = .ok (.iload_n 1, 1) := by decide +kernel
theorem dX4_pours_2 : decode cX4_pours 2 = .ok (.invokevirtual 132, 3) := by decide +kernel
theorem dX4_pours_5 : decode cX4_pours 5 = .ok (.ifCond .ne 5, 3) := by decide +kernel
theorem dX4_pours_8 : decode cX4_pours 8 = .ok (.iconst (-1), 1) := by decide +kernel
theorem dX4_pours_9 : decode cX4_pours 9 = .ok (.ireturn, 1) := by decide +kernel
theorem dX4_pours_10 : decode cX4_pours 10 = .ok (.aload_n 0, 1) := by decide +kernel
theorem dX4_pours_11 : decode cX4_pours 11 = .ok (.iload_n 1, 1) := by decide +kernel
theorem dX4_pours_12 : decode cX4_pours 12 = .ok (.invokevirtual 119, 3) := by decide +kernel
theorem dX4_pours_15 : decode cX4_pours 15 = .ok (.ifCond .ne 12, 3) := by decide +kernel
theorem dX4_pours_18 : decode cX4_pours 18 = .ok (.aload_n 0, 1) := by decide +kernel
theorem dX4_pours_19 : decode cX4_pours 19 = .ok (.iload_n 1, 1) := by decide +kernel
theorem dX4_pours_20 : decode cX4_pours 20 = .ok (.iconst 0, 1) := by decide +kernel
theorem dX4_pours_21 : decode cX4_pours 21 = .ok (.invokevirtual 122, 3) := by decide +kernel
theorem dX4_pours_24 : decode cX4_pours 24 = .ok (.ifCond .ne 6, 3) := by decide +kernel
theorem dX4_pours_27 : decode cX4_pours 27 = .ok (.bipush (-2), 2) := by decide +kernel
theorem dX4_pours_29 : decode cX4_pours 29 = .ok (.ireturn, 1) := by decide +kernel
theorem dX4_pours_30 : decode cX4_pours 30 = .ok (.aload_n 0, 1) := by decide +kernel
theorem dX4_pours_31 : decode cX4_pours 31 = .ok (.invokevirtual 141, 3) := by decide +kernel
theorem dX4_pours_34 : decode cX4_pours 34 = .ok (.iconst 1, 1) := by decide +kernel
theorem dX4_pours_35 : decode cX4_pours 35 = .ok (.istore_n 2, 1) := by decide +kernel
theorem dX4_pours_36 : decode cX4_pours 36 = .ok (.iconst 0, 1) := by decide +kernel
theorem dX4_pours_37 : decode cX4_pours 37 = .ok (.istore_n 3, 1) := by decide +kernel
theorem dX4_pours_38 : decode cX4_pours 38 = .ok (.iload_n 3, 1) := by decide +kernel
theorem dX4_pours_39 : decode cX4_pours 39 = .ok (.aload_n 0, 1) := by decide +kernel
theorem dX4_pours_40 : decode cX4_pours 40 = .ok (.getfield 13, 3) := by decide +kernel
theorem dX4_pours_43 : decode cX4_pours 43 = .ok (.iconst 0, 1) := by decide +kernel
theorem dX4_pours_44 : decode cX4_pours 44 = .ok (.iaload, 1) := by decide +kernel
theorem dX4_pours_45 : decode cX4_pours 45 = .ok (.if_icmp .ge 70, 3) := by decide +kernel
theorem dX4_pours_48 : decode cX4_pours 48 = .ok (.aload_n 0, 1) := by decide +kernel
theorem dX4_pours_49 : decode cX4_pours 49 = .ok (.iload_n 3, 1) := by decide +kernel
theorem dX4_pours_50 : decode cX4_pours 50 = .ok (.invokevirtual 109, 3) := by decide +kernel
theorem dX4_pours_53 : decode cX4_pours 53 = .ok (.istore 4, 2) := by decide +kernel
theorem dX4_pours_55 : decode cX4_pours 55 = .ok (.iload_n 2, 1) := by decide +kernel
theorem dX4_pours_56 : decode cX4_pours 56 = .ok (.ifCond .eq 35, 3) := by decide +kernel
theorem dX4_pours_59 : decode cX4_pours 59 = .ok (.aload_n 0, 1) := by decide +kernel
theorem dX4_pours_60 : decode cX4_pours 60 = .ok (.iload_n 1, 1) := by decide +kernel
theorem dX4_pours_61 : decode cX4_pours 61 = .ok (.iload_n 3, 1) := by decide +kernel
theorem dX4_pours_62 : decode cX4_pours 62 = .ok (.invokevirtual 116, 3) := by decide +kernel
theorem dX4_pours_65 : decode cX4_pours 65 = .ok (.ifCond .eq 22, 3) := by decide +kernel
theorem dX4_pours_68 : decode cX4_pours 68 = .ok (.iload 4, 2) := by decide +kernel
theorem dX4_pours_70 : decode cX4_pours 70 = .ok (.iload_n 3, 1) := by decide +kernel
theorem dX4_pours_71 : decode cX4_pours 71 = .ok (.if_icmp .ne 20, 3) := by decide +kernel
theorem dX4_pours_74 : decode cX4_pours 74 = .ok (.aload_n 0, 1) := by decide +kernel
theorem dX4_pours_75 : decode cX4_pours 75 = .ok (.getfield 35, 3) := by decide +kernel
theorem dX4_pours_78 : decode cX4_pours 78 = .ok (.bipush 6, 2) := by decide +kernel
theorem dX4_pours_80 : decode cX4_pours 80 = .ok (.iload 4, 2) := by decide +kernel
theorem dX4_pours_82 : decode cX4_pours 82 = .ok (.iadd, 1) := by decide +kernel
theorem dX4_pours_83 : decode cX4_pours 83 = .ok (.iaload, 1) := by decide +kernel
theorem dX4_pours_84 : decode cX4_pours 84 = .ok (.ifCond .ne 7, 3) := by decide +kernel
theorem dX4_pours_87 : decode cX4_pours 87 = .ok (.iconst 1, 1) := by decide +kernel
theorem dX4_pours_88 : decode cX4_pours 88 = .ok (.goto 4, 3) := by decide +kernel
theorem dX4_pours_91 : decode cX4_pours 91 = .ok (.iconst 0, 1) := by decide +kernel
theorem dX4_pours_92 : decode cX4_pours 92 = .ok (.istore_n 2, 1) := by decide +kernel
theorem dX4_pours_93 : decode cX4_pours 93 = .ok (.aload_n 0, 1) := by decide +kernel
theorem dX4_pours_94 : decode cX4_pours 94 = .ok (.getfield 35, 3) := by decide +kernel
theorem dX4_pours_97 : decode cX4_pours 97 = .ok (.iload 4, 2) := by decide +kernel
theorem dX4_pours_99 : decode cX4_pours 99 = .ok (.dup2, 1) := by decide +kernel
theorem dX4_pours_100 : decode cX4_pours 100 = .ok (.iaload, 1) := by decide +kernel
theorem dX4_pours_101 : decode cX4_pours 101 = .ok (.aload_n 0, 1) := by decide +kernel
theorem dX4_pours_102 : decode cX4_pours 102 = .ok (.iload_n 1, 1) := by decide +kernel
theorem dX4_pours_103 : decode cX4_pours 103 = .ok (.iload_n 3, 1) := by decide +kernel
theorem dX4_pours_104 : decode cX4_pours 104 = .ok (.invokevirtual 116, 3) := by decide +kernel
theorem dX4_pours_107 : decode cX4_pours 107 = .ok (.isub, 1) := by decide +kernel
theorem dX4_pours_108 : decode cX4_pours 108 = .ok (.iastore, 1) := by decide +kernel
theorem dX4_pours_109 : decode cX4_pours 109 = .ok (.iinc 3 1, 3) := by decide +kernel
theorem dX4_pours_112 : decode cX4_pours 112 = .ok (.goto (-74), 3) := by decide +kernel
theorem dX4_pours_115 : decode cX4_pours 115 = .ok (.aload_n 0, 1) := by decide +kernel
theorem dX4_pours_116 : decode cX4_pours 116 = .ok (.invokevirtual 144, 3) := by decide +kernel
theorem dX4_pours_119 : decode cX4_pours 119 = .ok (.aload_n 0, 1) := by decide +kernel
theorem dX4_pours_120 : decode cX4_pours 120 = .ok (.getfield 35, 3) := by decide +kernel
theorem dX4_pours_123 : decode cX4_pours 123 = .ok (.bipush 19, 2) := by decide +kernel
theorem dX4_pours_125 : decode cX4_pours 125 = .ok (.dup2, 1) := by decide +kernel
theorem dX4_pours_126 : decode cX4_pours 126 = .ok (.iaload, 1) := by decide +kernel
theorem dX4_pours_127 : decode cX4_pours 127 = .ok (.iconst 1, 1) := by decide +kernel
theorem dX4_pours_128 : decode cX4_pours 128 = .ok (.iload_n 1, 1) := by decide +kernel
theorem dX4_pours_129 : decode cX4_pours 129 = .ok (.ishl, 1) := by decide +kernel
theorem dX4_pours_130 : decode cX4_pours 130 = .ok (.ior, 1) := by decide +kernel
theorem dX4_pours_131 : decode cX4_pours 131 = .ok (.iastore, 1) := by decide +kernel
theorem dX4_pours_132 : decode cX4_pours 132 = .ok (.aload_n 0, 1) := by decide +kernel
theorem dX4_pours_133 : decode cX4_pours 133 = .ok (.getfield 35, 3) := by decide +kernel
theorem dX4_pours_136 : decode cX4_pours 136 = .ok (.bipush 20, 2) := by decide +kernel
theorem dX4_pours_138 : decode cX4_pours 138 = .ok (.dup2, 1) := by decide +kernel
theorem dX4_pours_139 : decode cX4_pours 139 = .ok (.iaload, 1) := by decide +kernel
theorem dX4_pours_140 : decode cX4_pours 140 = .ok (.iload_n 2, 1) := by decide +kernel
theorem dX4_pours_141 : decode cX4_pours 141 = .ok (.ifCond .eq 12, 3) := by decide +kernel
theorem dX4_pours_144 : decode cX4_pours 144 = .ok (.aload_n 0, 1) := by decide +kernel
theorem dX4_pours_145 : decode cX4_pours 145 = .ok (.getfield 29, 3) := by decide +kernel
theorem dX4_pours_148 : decode cX4_pours 148 = .ok (.iload_n 1, 1) := by decide +kernel
theorem dX4_pours_149 : decode cX4_pours 149 = .ok (.iaload, 1) := by decide +kernel
theorem dX4_pours_150 : decode cX4_pours 150 = .ok (.goto 4, 3) := by decide +kernel
theorem dX4_pours_153 : decode cX4_pours 153 = .ok (.iconst 0, 1) := by decide +kernel
theorem dX4_pours_154 : decode cX4_pours 154 = .ok (.iadd, 1) := by decide +kernel
theorem dX4_pours_155 : decode cX4_pours 155 = .ok (.iastore, 1) := by decide +kernel
theorem dX4_pours_156 : decode cX4_pours 156 = .ok (.aload_n 0, 1) := by decide +kernel
theorem dX4_pours_157 : decode cX4_pours 157 = .ok (.getfield 35, 3) := by decide +kernel
theorem dX4_pours_160 : decode cX4_pours 160 = .ok (.bipush 21, 2) := by decide +kernel
theorem dX4_pours_162 : decode cX4_pours 162 = .ok (.dup2, 1) := by decide +kernel
theorem dX4_pours_163 : decode cX4_pours 163 = .ok (.iaload, 1) := by decide +kernel
theorem dX4_pours_164 : decode cX4_pours 164 = .ok (.iload_n 2, 1) := by decide +kernel
theorem dX4_pours_165 : decode cX4_pours 165 = .ok (.ifCond .eq 7, 3) := by decide +kernel
theorem dX4_pours_168 : decode cX4_pours 168 = .ok (.iconst 0, 1) := by decide +kernel
theorem dX4_pours_169 : decode cX4_pours 169 = .ok (.goto 4, 3) := by decide +kernel
theorem dX4_pours_172 : decode cX4_pours 172 = .ok (.iconst 1, 1) := by decide +kernel
theorem dX4_pours_173 : decode cX4_pours 173 = .ok (.iadd, 1) := by decide +kernel
theorem dX4_pours_174 : decode cX4_pours 174 = .ok (.iastore, 1) := by decide +kernel
theorem dX4_pours_175 : decode cX4_pours 175 = .ok (.iload_n 2, 1) := by decide +kernel
theorem dX4_pours_176 : decode cX4_pours 176 = .ok (.ifCond .eq 7, 3) := by decide +kernel
theorem dX4_pours_179 : decode cX4_pours 179 = .ok (.iconst 1, 1) := by decide +kernel
theorem dX4_pours_180 : decode cX4_pours 180 = .ok (.goto 4, 3) := by decide +kernel
theorem dX4_pours_183 : decode cX4_pours 183 = .ok (.iconst 0, 1) := by decide +kernel
theorem dX4_pours_184 : decode cX4_pours 184 = .ok (.ireturn, 1) := by decide +kernel
theorem dX4_month_0 : decode cX4_month 0 = .ok (.aload_n 0, 1) := by decide +kernel
theorem dX4_month_1 : decode cX4_month 1 = .ok (.getfield 35, 3) := by decide +kernel
theorem dX4_month_4 : decode cX4_month 4 = .ok (.bipush 18, 2) := by decide +kernel
theorem dX4_month_6 : decode cX4_month 6 = .ok (.iaload, 1) := by decide +kernel
theorem dX4_month_7 : decode cX4_month 7 = .ok (.sipush 999, 3) := by decide +kernel
theorem dX4_month_10 : decode cX4_month 10 = .ok (.if_icmp .ne 6, 3) := by decide +kernel
theorem dX4_month_13 : decode cX4_month 13 = .ok (.bipush (-2), 2) := by decide +kernel
theorem dX4_month_15 : decode cX4_month 15 = .ok (.ireturn, 1) := by decide +kernel
theorem dX4_month_16 : decode cX4_month 16 = .ok (.aload_n 0, 1) := by decide +kernel
theorem dX4_month_17 : decode cX4_month 17 = .ok (.invokevirtual 141, 3) := by decide +kernel
theorem dX4_month_20 : decode cX4_month 20 = .ok (.iconst 0, 1) := by decide +kernel
theorem dX4_month_21 : decode cX4_month 21 = .ok (.istore_n 1, 1) := by decide +kernel
theorem dX4_month_22 : decode cX4_month 22 = .ok (.iload_n 1, 1) := by decide +kernel
theorem dX4_month_23 : decode cX4_month 23 = .ok (.aload_n 0, 1) := by decide +kernel
theorem dX4_month_24 : decode cX4_month 24 = .ok (.getfield 13, 3) := by decide +kernel
theorem dX4_month_27 : decode cX4_month 27 = .ok (.iconst 0, 1) := by decide +kernel
theorem dX4_month_28 : decode cX4_month 28 = .ok (.iaload, 1) := by decide +kernel
theorem dX4_month_29 : decode cX4_month 29 = .ok (.if_icmp .ge 21, 3) := by decide +kernel
theorem dX4_month_32 : decode cX4_month 32 = .ok (.aload_n 0, 1) := by decide +kernel
theorem dX4_month_33 : decode cX4_month 33 = .ok (.getfield 35, 3) := by decide +kernel
theorem dX4_month_36 : decode cX4_month 36 = .ok (.iload_n 1, 1) := by decide +kernel
theorem dX4_month_37 : decode cX4_month 37 = .ok (.aload_n 0, 1) := by decide +kernel
theorem dX4_month_38 : decode cX4_month 38 = .ok (.iload_n 1, 1) := by decide +kernel
theorem dX4_month_39 : decode cX4_month 39 = .ok (.iconst 1, 1) := by decide +kernel
theorem dX4_month_40 : decode cX4_month 40 = .ok (.invokevirtual 113, 3) := by decide +kernel
theorem dX4_month_43 : decode cX4_month 43 = .ok (.iastore, 1) := by decide +kernel
theorem dX4_month_44 : decode cX4_month 44 = .ok (.iinc 1 1, 3) := by decide +kernel
theorem dX4_month_47 : decode cX4_month 47 = .ok (.goto (-25), 3) := by decide +kernel
theorem dX4_month_50 : decode cX4_month 50 = .ok (.aload_n 0, 1) := by decide +kernel
theorem dX4_month_51 : decode cX4_month 51 = .ok (.invokevirtual 144, 3) := by decide +kernel
theorem dX4_month_54 : decode cX4_month 54 = .ok (.aload_n 0, 1) := by decide +kernel
theorem dX4_month_55 : decode cX4_month 55 = .ok (.getfield 35, 3) := by decide +kernel
theorem dX4_month_58 : decode cX4_month 58 = .ok (.bipush 18, 2) := by decide +kernel
theorem dX4_month_60 : decode cX4_month 60 = .ok (.dup2, 1) := by decide +kernel
theorem dX4_month_61 : decode cX4_month 61 = .ok (.iaload, 1) := by decide +kernel
theorem dX4_month_62 : decode cX4_month 62 = .ok (.iconst 1, 1) := by decide +kernel
theorem dX4_month_63 : decode cX4_month 63 = .ok (.iadd, 1) := by decide +kernel
theorem dX4_month_64 : decode cX4_month 64 = .ok (.iastore, 1) := by decide +kernel
theorem dX4_month_65 : decode cX4_month 65 = .ok (.aload_n 0, 1) := by decide +kernel
theorem dX4_month_66 : decode cX4_month 66 = .ok (.getfield 35, 3) := by decide +kernel
theorem dX4_month_69 : decode cX4_month 69 = .ok (.bipush 18, 2) := by decide +kernel
theorem dX4_month_71 : decode cX4_month 71 = .ok (.iaload, 1) := by decide +kernel
theorem dX4_month_72 : decode cX4_month 72 = .ok (.ireturn, 1) := by decide +kernel
theorem dX4_tops_0 : decode cX4_tops 0 = .ok (.aload_n 0, 1) := by decide +kernel
theorem dX4_tops_1 : decode cX4_tops 1 = .ok (.iload_n 1, 1) := by decide +kernel
theorem dX4_tops_2 : decode cX4_tops 2 = .ok (.invokevirtual 126, 3) := by decide +kernel
theorem dX4_tops_5 : decode cX4_tops 5 = .ok (.ifCond .eq 13, 3) := by decide +kernel
theorem dX4_tops_8 : decode cX4_tops 8 = .ok (.iload_n 2, 1) := by decide +kernel
theorem dX4_tops_9 : decode cX4_tops 9 = .ok (.iconst 1, 1) := by decide +kernel
theorem dX4_tops_10 : decode cX4_tops 10 = .ok (.bipush 40, 2) := by decide +kernel
theorem dX4_tops_12 : decode cX4_tops 12 = .ok (.invokestatic 57, 3) := by decide +kernel
theorem dX4_tops_15 : decode cX4_tops 15 = .ok (.ifCond .ne 5, 3) := by decide +kernel
theorem dX4_tops_18 : decode cX4_tops 18 = .ok (.iconst (-1), 1) := by decide +kernel
theorem dX4_tops_19 : decode cX4_tops 19 = .ok (.ireturn, 1) := by decide +kernel
theorem dX4_tops_20 : decode cX4_tops 20 = .ok (.aload_n 0, 1) := by decide +kernel
theorem dX4_tops_21 : decode cX4_tops 21 = .ok (.getfield 35, 3) := by decide +kernel
theorem dX4_tops_24 : decode cX4_tops 24 = .ok (.iload_n 1, 1) := by decide +kernel
theorem dX4_tops_25 : decode cX4_tops 25 = .ok (.iaload, 1) := by decide +kernel
theorem dX4_tops_26 : decode cX4_tops 26 = .ok (.iload_n 2, 1) := by decide +kernel
theorem dX4_tops_27 : decode cX4_tops 27 = .ok (.iadd, 1) := by decide +kernel
theorem dX4_tops_28 : decode cX4_tops 28 = .ok (.bipush 40, 2) := by decide +kernel
theorem dX4_tops_30 : decode cX4_tops 30 = .ok (.if_icmp .le 6, 3) := by decide +kernel
theorem dX4_tops_33 : decode cX4_tops 33 = .ok (.bipush (-2), 2) := by decide +kernel
theorem dX4_tops_35 : decode cX4_tops 35 = .ok (.ireturn, 1) := by decide +kernel
theorem dX4_tops_36 : decode cX4_tops 36 = .ok (.aload_n 0, 1) := by decide +kernel
theorem dX4_tops_37 : decode cX4_tops 37 = .ok (.invokevirtual 141, 3) := by decide +kernel
theorem dX4_tops_40 : decode cX4_tops 40 = .ok (.aload_n 0, 1) := by decide +kernel
theorem dX4_tops_41 : decode cX4_tops 41 = .ok (.getfield 35, 3) := by decide +kernel
theorem dX4_tops_44 : decode cX4_tops 44 = .ok (.iload_n 1, 1) := by decide +kernel
theorem dX4_tops_45 : decode cX4_tops 45 = .ok (.dup2, 1) := by decide +kernel
theorem dX4_tops_46 : decode cX4_tops 46 = .ok (.iaload, 1) := by decide +kernel
theorem dX4_tops_47 : decode cX4_tops 47 = .ok (.iload_n 2, 1) := by decide +kernel
theorem dX4_tops_48 : decode cX4_tops 48 = .ok (.iadd, 1) := by decide +kernel
theorem dX4_tops_49 : decode cX4_tops 49 = .ok (.iastore, 1) := by decide +kernel
theorem dX4_tops_50 : decode cX4_tops 50 = .ok (.aload_n 0, 1) := by decide +kernel
theorem dX4_tops_51 : decode cX4_tops 51 = .ok (.getfield 35, 3) := by decide +kernel
theorem dX4_tops_54 : decode cX4_tops 54 = .ok (.bipush 6, 2) := by decide +kernel
theorem dX4_tops_56 : decode cX4_tops 56 = .ok (.iload_n 1, 1) := by decide +kernel
theorem dX4_tops_57 : decode cX4_tops 57 = .ok (.iadd, 1) := by decide +kernel
theorem dX4_tops_58 : decode cX4_tops 58 = .ok (.dup2, 1) := by decide +kernel
theorem dX4_tops_59 : decode cX4_tops 59 = .ok (.iaload, 1) := by decide +kernel
theorem dX4_tops_60 : decode cX4_tops 60 = .ok (.iload_n 2, 1) := by decide +kernel
theorem dX4_tops_61 : decode cX4_tops 61 = .ok (.iadd, 1) := by decide +kernel
theorem dX4_tops_62 : decode cX4_tops 62 = .ok (.iastore, 1) := by decide +kernel
theorem dX4_tops_63 : decode cX4_tops 63 = .ok (.aload_n 0, 1) := by decide +kernel
theorem dX4_tops_64 : decode cX4_tops 64 = .ok (.getfield 35, 3) := by decide +kernel
theorem dX4_tops_67 : decode cX4_tops 67 = .ok (.iload_n 1, 1) := by decide +kernel
theorem dX4_tops_68 : decode cX4_tops 68 = .ok (.iaload, 1) := by decide +kernel
theorem dX4_tops_69 : decode cX4_tops 69 = .ok (.ireturn, 1) := by decide +kernel
theorem dX4_rightOnes_0 : decode cX4_rightOnes 0 = .ok (.iconst 0, 1) := by decide +kernel
theorem dX4_rightOnes_1 : decode cX4_rightOnes 1 = .ok (.istore_n 1, 1) := by decide +kernel
theorem dX4_rightOnes_2 : decode cX4_rightOnes 2 = .ok (.iconst 0, 1) := by decide +kernel
theorem dX4_rightOnes_3 : decode cX4_rightOnes 3 = .ok (.istore_n 2, 1) := by decide +kernel
theorem dX4_rightOnes_4 : decode cX4_rightOnes 4 = .ok (.iload_n 2, 1) := by decide +kernel
theorem dX4_rightOnes_5 : decode cX4_rightOnes 5 = .ok (.aload_n 0, 1) := by decide +kernel
theorem dX4_rightOnes_6 : decode cX4_rightOnes 6 = .ok (.getfield 13, 3) := by decide +kernel
theorem dX4_rightOnes_9 : decode cX4_rightOnes 9 = .ok (.iconst 0, 1) := by decide +kernel
theorem dX4_rightOnes_10 : decode cX4_rightOnes 10 = .ok (.iaload, 1) := by decide +kernel
theorem dX4_rightOnes_11 : decode cX4_rightOnes 11 = .ok (.if_icmp .ge 30, 3) := by decide +kernel
theorem dX4_rightOnes_14 : decode cX4_rightOnes 14 = .ok (.iload_n 1, 1) := by decide +kernel
theorem dX4_rightOnes_15 : decode cX4_rightOnes 15 = .ok (.aload_n 0, 1) := by decide +kernel
theorem dX4_rightOnes_16 : decode cX4_rightOnes 16 = .ok (.getfield 35, 3) := by decide +kernel
theorem dX4_rightOnes_19 : decode cX4_rightOnes 19 = .ok (.bipush 12, 2) := by decide +kernel
theorem dX4_rightOnes_21 : decode cX4_rightOnes 21 = .ok (.iload_n 2, 1) := by decide +kernel
theorem dX4_rightOnes_22 : decode cX4_rightOnes 22 = .ok (.iadd, 1) := by decide +kernel
theorem dX4_rightOnes_23 : decode cX4_rightOnes 23 = .ok (.iaload, 1) := by decide +kernel
theorem dX4_rightOnes_24 : decode cX4_rightOnes 24 = .ok (.iload_n 2, 1) := by decide +kernel
theorem dX4_rightOnes_25 : decode cX4_rightOnes 25 = .ok (.if_icmp .ne 7, 3) := by decide +kernel
theorem dX4_rightOnes_28 : decode cX4_rightOnes 28 = .ok (.iconst 1, 1) := by decide +kernel
theorem dX4_rightOnes_29 : decode cX4_rightOnes 29 = .ok (.goto 4, 3) := by decide +kernel
theorem dX4_rightOnes_32 : decode cX4_rightOnes 32 = .ok (.iconst 0, 1) := by decide +kernel
theorem dX4_rightOnes_33 : decode cX4_rightOnes 33 = .ok (.iadd, 1) := by decide +kernel
theorem dX4_rightOnes_34 : decode cX4_rightOnes 34 = .ok (.istore_n 1, 1) := by decide +kernel
theorem dX4_rightOnes_35 : decode cX4_rightOnes 35 = .ok (.iinc 2 1, 3) := by decide +kernel
theorem dX4_rightOnes_38 : decode cX4_rightOnes 38 = .ok (.goto (-34), 3) := by decide +kernel
theorem dX4_rightOnes_41 : decode cX4_rightOnes 41 = .ok (.iload_n 1, 1) := by decide +kernel
theorem dX4_rightOnes_42 : decode cX4_rightOnes 42 = .ok (.ireturn, 1) := by decide +kernel
theorem dX4_labels_0 : decode cX4_labels 0 = .ok (.aload_n 0, 1) := by decide +kernel
theorem dX4_labels_1 : decode cX4_labels 1 = .ok (.iload_n 1, 1) := by decide +kernel
theorem dX4_labels_2 : decode cX4_labels 2 = .ok (.invokevirtual 126, 3) := by decide +kernel
theorem dX4_labels_5 : decode cX4_labels 5 = .ok (.ifCond .eq 16, 3) := by decide +kernel
theorem dX4_labels_8 : decode cX4_labels 8 = .ok (.aload_n 0, 1) := by decide +kernel
theorem dX4_labels_9 : decode cX4_labels 9 = .ok (.iload_n 2, 1) := by decide +kernel
theorem dX4_labels_10 : decode cX4_labels 10 = .ok (.invokevirtual 126, 3) := by decide +kernel
theorem dX4_labels_13 : decode cX4_labels 13 = .ok (.ifCond .eq 8, 3) := by decide +kernel
theorem dX4_labels_16 : decode cX4_labels 16 = .ok (.iload_n 1, 1) := by decide +kernel
theorem dX4_labels_17 : decode cX4_labels 17 = .ok (.iload_n 2, 1) := by decide +kernel
theorem dX4_labels_18 : decode cX4_labels 18 = .ok (.if_icmp .ne 5, 3) := by decide +kernel
theorem dX4_labels_21 : decode cX4_labels 21 = .ok (.iconst (-1), 1) := by decide +kernel
theorem dX4_labels_22 : decode cX4_labels 22 = .ok (.ireturn, 1) := by decide +kernel
theorem dX4_labels_23 : decode cX4_labels 23 = .ok (.aload_n 0, 1) := by decide +kernel
theorem dX4_labels_24 : decode cX4_labels 24 = .ok (.invokevirtual 141, 3) := by decide +kernel
theorem dX4_labels_27 : decode cX4_labels 27 = .ok (.aload_n 0, 1) := by decide +kernel
theorem dX4_labels_28 : decode cX4_labels 28 = .ok (.getfield 35, 3) := by decide +kernel
theorem dX4_labels_31 : decode cX4_labels 31 = .ok (.bipush 12, 2) := by decide +kernel
theorem dX4_labels_33 : decode cX4_labels 33 = .ok (.iload_n 1, 1) := by decide +kernel
theorem dX4_labels_34 : decode cX4_labels 34 = .ok (.iadd, 1) := by decide +kernel
theorem dX4_labels_35 : decode cX4_labels 35 = .ok (.iaload, 1) := by decide +kernel
theorem dX4_labels_36 : decode cX4_labels 36 = .ok (.istore_n 3, 1) := by decide +kernel
theorem dX4_labels_37 : decode cX4_labels 37 = .ok (.aload_n 0, 1) := by decide +kernel
theorem dX4_labels_38 : decode cX4_labels 38 = .ok (.getfield 35, 3) := by decide +kernel
theorem dX4_labels_41 : decode cX4_labels 41 = .ok (.bipush 12, 2) := by decide +kernel
theorem dX4_labels_43 : decode cX4_labels 43 = .ok (.iload_n 1, 1) := by decide +kernel
theorem dX4_labels_44 : decode cX4_labels 44 = .ok (.iadd, 1) := by decide +kernel
theorem dX4_labels_45 : decode cX4_labels 45 = .ok (.aload_n 0, 1) := by decide +kernel
theorem dX4_labels_46 : decode cX4_labels 46 = .ok (.getfield 35, 3) := by decide +kernel
theorem dX4_labels_49 : decode cX4_labels 49 = .ok (.bipush 12, 2) := by decide +kernel
theorem dX4_labels_51 : decode cX4_labels 51 = .ok (.iload_n 2, 1) := by decide +kernel
theorem dX4_labels_52 : decode cX4_labels 52 = .ok (.iadd, 1) := by decide +kernel
theorem dX4_labels_53 : decode cX4_labels 53 = .ok (.iaload, 1) := by decide +kernel
theorem dX4_labels_54 : decode cX4_labels 54 = .ok (.iastore, 1) := by decide +kernel
theorem dX4_labels_55 : decode cX4_labels 55 = .ok (.aload_n 0, 1) := by decide +kernel
theorem dX4_labels_56 : decode cX4_labels 56 = .ok (.getfield 35, 3) := by decide +kernel
theorem dX4_labels_59 : decode cX4_labels 59 = .ok (.bipush 12, 2) := by decide +kernel
theorem dX4_labels_61 : decode cX4_labels 61 = .ok (.iload_n 2, 1) := by decide +kernel
theorem dX4_labels_62 : decode cX4_labels 62 = .ok (.iadd, 1) := by decide +kernel
theorem dX4_labels_63 : decode cX4_labels 63 = .ok (.iload_n 3, 1) := by decide +kernel
theorem dX4_labels_64 : decode cX4_labels 64 = .ok (.iastore, 1) := by decide +kernel
theorem dX4_labels_65 : decode cX4_labels 65 = .ok (.aload_n 0, 1) := by decide +kernel
theorem dX4_labels_66 : decode cX4_labels 66 = .ok (.invokevirtual 147, 3) := by decide +kernel
theorem dX4_labels_69 : decode cX4_labels 69 = .ok (.ireturn, 1) := by decide +kernel
theorem dX4_undo_0 : decode cX4_undo 0 = .ok (.aload_n 0, 1) := by decide +kernel
theorem dX4_undo_1 : decode cX4_undo 1 = .ok (.getfield 35, 3) := by decide +kernel
theorem dX4_undo_4 : decode cX4_undo 4 = .ok (.bipush 22, 2) := by decide +kernel
theorem dX4_undo_6 : decode cX4_undo 6 = .ok (.iaload, 1) := by decide +kernel
theorem dX4_undo_7 : decode cX4_undo 7 = .ok (.ifCond .ne 6, 3) := by decide +kernel
theorem dX4_undo_10 : decode cX4_undo 10 = .ok (.bipush (-2), 2) := by decide +kernel
theorem dX4_undo_12 : decode cX4_undo 12 = .ok (.ireturn, 1) := by decide +kernel
theorem dX4_undo_13 : decode cX4_undo 13 = .ok (.aload_n 0, 1) := by decide +kernel
theorem dX4_undo_14 : decode cX4_undo 14 = .ok (.getfield 35, 3) := by decide +kernel
theorem dX4_undo_17 : decode cX4_undo 17 = .ok (.bipush 22, 2) := by decide +kernel
theorem dX4_undo_19 : decode cX4_undo 19 = .ok (.dup2, 1) := by decide +kernel
theorem dX4_undo_20 : decode cX4_undo 20 = .ok (.iaload, 1) := by decide +kernel
theorem dX4_undo_21 : decode cX4_undo 21 = .ok (.iconst 1, 1) := by decide +kernel
theorem dX4_undo_22 : decode cX4_undo 22 = .ok (.isub, 1) := by decide +kernel
theorem dX4_undo_23 : decode cX4_undo 23 = .ok (.iastore, 1) := by decide +kernel
theorem dX4_undo_24 : decode cX4_undo 24 = .ok (.iconst 0, 1) := by decide +kernel
theorem dX4_undo_25 : decode cX4_undo 25 = .ok (.istore_n 1, 1) := by decide +kernel
theorem dX4_undo_26 : decode cX4_undo 26 = .ok (.iload_n 1, 1) := by decide +kernel
theorem dX4_undo_27 : decode cX4_undo 27 = .ok (.bipush 22, 2) := by decide +kernel
theorem dX4_undo_29 : decode cX4_undo 29 = .ok (.if_icmp .ge 35, 3) := by decide +kernel
theorem dX4_undo_32 : decode cX4_undo 32 = .ok (.aload_n 0, 1) := by decide +kernel
theorem dX4_undo_33 : decode cX4_undo 33 = .ok (.getfield 35, 3) := by decide +kernel
theorem dX4_undo_36 : decode cX4_undo 36 = .ok (.iload_n 1, 1) := by decide +kernel
theorem dX4_undo_37 : decode cX4_undo 37 = .ok (.aload_n 0, 1) := by decide +kernel
theorem dX4_undo_38 : decode cX4_undo 38 = .ok (.getfield 35, 3) := by decide +kernel
theorem dX4_undo_41 : decode cX4_undo 41 = .ok (.bipush 23, 2) := by decide +kernel
theorem dX4_undo_43 : decode cX4_undo 43 = .ok (.bipush 22, 2) := by decide +kernel
theorem dX4_undo_45 : decode cX4_undo 45 = .ok (.aload_n 0, 1) := by decide +kernel
theorem dX4_undo_46 : decode cX4_undo 46 = .ok (.getfield 35, 3) := by decide +kernel
theorem dX4_undo_49 : decode cX4_undo 49 = .ok (.bipush 22, 2) := by decide +kernel
theorem dX4_undo_51 : decode cX4_undo 51 = .ok (.iaload, 1) := by decide +kernel
theorem dX4_undo_52 : decode cX4_undo 52 = .ok (.imul, 1) := by decide +kernel
theorem dX4_undo_53 : decode cX4_undo 53 = .ok (.iadd, 1) := by decide +kernel
theorem dX4_undo_54 : decode cX4_undo 54 = .ok (.iload_n 1, 1) := by decide +kernel
theorem dX4_undo_55 : decode cX4_undo 55 = .ok (.iadd, 1) := by decide +kernel
theorem dX4_undo_56 : decode cX4_undo 56 = .ok (.iaload, 1) := by decide +kernel
theorem dX4_undo_57 : decode cX4_undo 57 = .ok (.iastore, 1) := by decide +kernel
theorem dX4_undo_58 : decode cX4_undo 58 = .ok (.iinc 1 1, 3) := by decide +kernel
theorem dX4_undo_61 : decode cX4_undo 61 = .ok (.goto (-35), 3) := by decide +kernel
theorem dX4_undo_64 : decode cX4_undo 64 = .ok (.aload_n 0, 1) := by decide +kernel
theorem dX4_undo_65 : decode cX4_undo 65 = .ok (.getfield 35, 3) := by decide +kernel
theorem dX4_undo_68 : decode cX4_undo 68 = .ok (.bipush 22, 2) := by decide +kernel
theorem dX4_undo_70 : decode cX4_undo 70 = .ok (.iaload, 1) := by decide +kernel
theorem dX4_undo_71 : decode cX4_undo 71 = .ok (.ireturn, 1) := by decide +kernel
theorem dX4_now_0 : decode cX4_now 0 = .ok (.iconst 0, 1) := by decide +kernel
theorem dX4_now_1 : decode cX4_now 1 = .ok (.istore_n 2, 1) := by decide +kernel
theorem dX4_now_2 : decode cX4_now 2 = .ok (.iload_n 1, 1) := by decide +kernel
theorem dX4_now_3 : decode cX4_now 3 = .ok (.tableswitch 145 0 5 #[37, 45, 53, 61, 69, 116], 37) := by decide +kernel
theorem dX4_now_40 : decode cX4_now 40 = .ok (.aload_n 0, 1) := by decide +kernel
theorem dX4_now_41 : decode cX4_now 41 = .ok (.getfield 35, 3) := by decide +kernel
theorem dX4_now_44 : decode cX4_now 44 = .ok (.bipush 18, 2) := by decide +kernel
theorem dX4_now_46 : decode cX4_now 46 = .ok (.iaload, 1) := by decide +kernel
theorem dX4_now_47 : decode cX4_now 47 = .ok (.ireturn, 1) := by decide +kernel
theorem dX4_now_48 : decode cX4_now 48 = .ok (.aload_n 0, 1) := by decide +kernel
theorem dX4_now_49 : decode cX4_now 49 = .ok (.getfield 35, 3) := by decide +kernel
theorem dX4_now_52 : decode cX4_now 52 = .ok (.bipush 19, 2) := by decide +kernel
theorem dX4_now_54 : decode cX4_now 54 = .ok (.iaload, 1) := by decide +kernel
theorem dX4_now_55 : decode cX4_now 55 = .ok (.ireturn, 1) := by decide +kernel
theorem dX4_now_56 : decode cX4_now 56 = .ok (.aload_n 0, 1) := by decide +kernel
theorem dX4_now_57 : decode cX4_now 57 = .ok (.getfield 35, 3) := by decide +kernel
theorem dX4_now_60 : decode cX4_now 60 = .ok (.bipush 20, 2) := by decide +kernel
theorem dX4_now_62 : decode cX4_now 62 = .ok (.iaload, 1) := by decide +kernel
theorem dX4_now_63 : decode cX4_now 63 = .ok (.ireturn, 1) := by decide +kernel
theorem dX4_now_64 : decode cX4_now 64 = .ok (.aload_n 0, 1) := by decide +kernel
theorem dX4_now_65 : decode cX4_now 65 = .ok (.getfield 35, 3) := by decide +kernel
theorem dX4_now_68 : decode cX4_now 68 = .ok (.bipush 21, 2) := by decide +kernel
theorem dX4_now_70 : decode cX4_now 70 = .ok (.iaload, 1) := by decide +kernel
theorem dX4_now_71 : decode cX4_now 71 = .ok (.ireturn, 1) := by decide +kernel
theorem dX4_now_72 : decode cX4_now 72 = .ok (.iconst 0, 1) := by decide +kernel
theorem dX4_now_73 : decode cX4_now 73 = .ok (.istore_n 3, 1) := by decide +kernel
theorem dX4_now_74 : decode cX4_now 74 = .ok (.iload_n 3, 1) := by decide +kernel
theorem dX4_now_75 : decode cX4_now 75 = .ok (.aload_n 0, 1) := by decide +kernel
theorem dX4_now_76 : decode cX4_now 76 = .ok (.getfield 26, 3) := by decide +kernel
theorem dX4_now_79 : decode cX4_now 79 = .ok (.iconst 0, 1) := by decide +kernel
theorem dX4_now_80 : decode cX4_now 80 = .ok (.iaload, 1) := by decide +kernel
theorem dX4_now_81 : decode cX4_now 81 = .ok (.if_icmp .ge 36, 3) := by decide +kernel
theorem dX4_now_84 : decode cX4_now 84 = .ok (.iload_n 2, 1) := by decide +kernel
theorem dX4_now_85 : decode cX4_now 85 = .ok (.aload_n 0, 1) := by decide +kernel
theorem dX4_now_86 : decode cX4_now 86 = .ok (.iload_n 3, 1) := by decide +kernel
theorem dX4_now_87 : decode cX4_now 87 = .ok (.invokevirtual 119, 3) := by decide +kernel
theorem dX4_now_90 : decode cX4_now 90 = .ok (.ifCond .ne 18, 3) := by decide +kernel
theorem dX4_now_93 : decode cX4_now 93 = .ok (.aload_n 0, 1) := by decide +kernel
theorem dX4_now_94 : decode cX4_now 94 = .ok (.iload_n 3, 1) := by decide +kernel
theorem dX4_now_95 : decode cX4_now 95 = .ok (.iconst 0, 1) := by decide +kernel
theorem dX4_now_96 : decode cX4_now 96 = .ok (.invokevirtual 122, 3) := by decide +kernel
theorem dX4_now_99 : decode cX4_now 99 = .ok (.ifCond .eq 9, 3) := by decide +kernel
theorem dX4_now_102 : decode cX4_now 102 = .ok (.iconst 1, 1) := by decide +kernel
theorem dX4_now_103 : decode cX4_now 103 = .ok (.iload_n 3, 1) := by decide +kernel
theorem dX4_now_104 : decode cX4_now 104 = .ok (.ishl, 1) := by decide +kernel
theorem dX4_now_105 : decode cX4_now 105 = .ok (.goto 4, 3) := by decide +kernel
theorem dX4_now_108 : decode cX4_now 108 = .ok (.iconst 0, 1) := by decide +kernel
theorem dX4_now_109 : decode cX4_now 109 = .ok (.ior, 1) := by decide +kernel
theorem dX4_now_110 : decode cX4_now 110 = .ok (.istore_n 2, 1) := by decide +kernel
theorem dX4_now_111 : decode cX4_now 111 = .ok (.iinc 3 1, 3) := by decide +kernel
theorem dX4_now_114 : decode cX4_now 114 = .ok (.goto (-40), 3) := by decide +kernel
theorem dX4_now_117 : decode cX4_now 117 = .ok (.iload_n 2, 1) := by decide +kernel
theorem dX4_now_118 : decode cX4_now 118 = .ok (.ireturn, 1) := by decide +kernel
theorem dX4_now_119 : decode cX4_now 119 = .ok (.iconst 0, 1) := by decide +kernel
theorem dX4_now_120 : decode cX4_now 120 = .ok (.istore_n 3, 1) := by decide +kernel
theorem dX4_now_121 : decode cX4_now 121 = .ok (.iload_n 3, 1) := by decide +kernel
theorem dX4_now_122 : decode cX4_now 122 = .ok (.aload_n 0, 1) := by decide +kernel
theorem dX4_now_123 : decode cX4_now 123 = .ok (.getfield 13, 3) := by decide +kernel
theorem dX4_now_126 : decode cX4_now 126 = .ok (.iconst 0, 1) := by decide +kernel
theorem dX4_now_127 : decode cX4_now 127 = .ok (.iaload, 1) := by decide +kernel
theorem dX4_now_128 : decode cX4_now 128 = .ok (.if_icmp .ge 18, 3) := by decide +kernel
theorem dX4_now_131 : decode cX4_now 131 = .ok (.iload_n 2, 1) := by decide +kernel
theorem dX4_now_132 : decode cX4_now 132 = .ok (.aload_n 0, 1) := by decide +kernel
theorem dX4_now_133 : decode cX4_now 133 = .ok (.getfield 35, 3) := by decide +kernel
theorem dX4_now_136 : decode cX4_now 136 = .ok (.iload_n 3, 1) := by decide +kernel
theorem dX4_now_137 : decode cX4_now 137 = .ok (.iaload, 1) := by decide +kernel
theorem dX4_now_138 : decode cX4_now 138 = .ok (.iadd, 1) := by decide +kernel
theorem dX4_now_139 : decode cX4_now 139 = .ok (.istore_n 2, 1) := by decide +kernel
theorem dX4_now_140 : decode cX4_now 140 = .ok (.iinc 3 1, 3) := by decide +kernel
theorem dX4_now_143 : decode cX4_now 143 = .ok (.goto (-22), 3) := by decide +kernel
theorem dX4_now_146 : decode cX4_now 146 = .ok (.iload_n 2, 1) := by decide +kernel
theorem dX4_now_147 : decode cX4_now 147 = .ok (.ireturn, 1) := by decide +kernel
theorem dX4_now_148 : decode cX4_now 148 = .ok (.iconst (-1), 1) := by decide +kernel
theorem dX4_now_149 : decode cX4_now 149 = .ok (.ireturn, 1) := by decide +kernel
theorem dX4_worthOf_0 : decode cX4_worthOf 0 = .ok (.iconst 0, 1) := by decide +kernel
theorem dX4_worthOf_1 : decode cX4_worthOf 1 = .ok (.istore_n 2, 1) := by decide +kernel
theorem dX4_worthOf_2 : decode cX4_worthOf 2 = .ok (.iconst 0, 1) := by decide +kernel
theorem dX4_worthOf_3 : decode cX4_worthOf 3 = .ok (.istore_n 3, 1) := by decide +kernel
theorem dX4_worthOf_4 : decode cX4_worthOf 4 = .ok (.iload_n 3, 1) := by decide +kernel
theorem dX4_worthOf_5 : decode cX4_worthOf 5 = .ok (.aload_n 0, 1) := by decide +kernel
theorem dX4_worthOf_6 : decode cX4_worthOf 6 = .ok (.getfield 13, 3) := by decide +kernel
theorem dX4_worthOf_9 : decode cX4_worthOf 9 = .ok (.iconst 0, 1) := by decide +kernel
theorem dX4_worthOf_10 : decode cX4_worthOf 10 = .ok (.iaload, 1) := by decide +kernel
theorem dX4_worthOf_11 : decode cX4_worthOf 11 = .ok (.if_icmp .ge 76, 3) := by decide +kernel
theorem dX4_worthOf_14 : decode cX4_worthOf 14 = .ok (.iconst 0, 1) := by decide +kernel
theorem dX4_worthOf_15 : decode cX4_worthOf 15 = .ok (.istore 4, 2) := by decide +kernel
theorem dX4_worthOf_17 : decode cX4_worthOf 17 = .ok (.iconst 0, 1) := by decide +kernel
theorem dX4_worthOf_18 : decode cX4_worthOf 18 = .ok (.istore 5, 2) := by decide +kernel
theorem dX4_worthOf_20 : decode cX4_worthOf 20 = .ok (.iload 5, 2) := by decide +kernel
theorem dX4_worthOf_22 : decode cX4_worthOf 22 = .ok (.aload_n 0, 1) := by decide +kernel
theorem dX4_worthOf_23 : decode cX4_worthOf 23 = .ok (.getfield 26, 3) := by decide +kernel
theorem dX4_worthOf_26 : decode cX4_worthOf 26 = .ok (.iconst 0, 1) := by decide +kernel
theorem dX4_worthOf_27 : decode cX4_worthOf 27 = .ok (.iaload, 1) := by decide +kernel
theorem dX4_worthOf_28 : decode cX4_worthOf 28 = .ok (.if_icmp .ge 35, 3) := by decide +kernel
theorem dX4_worthOf_31 : decode cX4_worthOf 31 = .ok (.iload 4, 2) := by decide +kernel
theorem dX4_worthOf_33 : decode cX4_worthOf 33 = .ok (.iload_n 1, 1) := by decide +kernel
theorem dX4_worthOf_34 : decode cX4_worthOf 34 = .ok (.iload 5, 2) := by decide +kernel
theorem dX4_worthOf_36 : decode cX4_worthOf 36 = .ok (.ishr, 1) := by decide +kernel
theorem dX4_worthOf_37 : decode cX4_worthOf 37 = .ok (.iconst 1, 1) := by decide +kernel
theorem dX4_worthOf_38 : decode cX4_worthOf 38 = .ok (.iand, 1) := by decide +kernel
theorem dX4_worthOf_39 : decode cX4_worthOf 39 = .ok (.iconst 1, 1) := by decide +kernel
theorem dX4_worthOf_40 : decode cX4_worthOf 40 = .ok (.if_icmp .ne 13, 3) := by decide +kernel
theorem dX4_worthOf_43 : decode cX4_worthOf 43 = .ok (.aload_n 0, 1) := by decide +kernel
theorem dX4_worthOf_44 : decode cX4_worthOf 44 = .ok (.iload 5, 2) := by decide +kernel
theorem dX4_worthOf_46 : decode cX4_worthOf 46 = .ok (.iload_n 3, 1) := by decide +kernel
theorem dX4_worthOf_47 : decode cX4_worthOf 47 = .ok (.invokevirtual 116, 3) := by decide +kernel
theorem dX4_worthOf_50 : decode cX4_worthOf 50 = .ok (.goto 4, 3) := by decide +kernel
theorem dX4_worthOf_53 : decode cX4_worthOf 53 = .ok (.iconst 0, 1) := by decide +kernel
theorem dX4_worthOf_54 : decode cX4_worthOf 54 = .ok (.iadd, 1) := by decide +kernel
theorem dX4_worthOf_55 : decode cX4_worthOf 55 = .ok (.istore 4, 2) := by decide +kernel
theorem dX4_worthOf_57 : decode cX4_worthOf 57 = .ok (.iinc 5 1, 3) := by decide +kernel
theorem dX4_worthOf_60 : decode cX4_worthOf 60 = .ok (.goto (-40), 3) := by decide +kernel
theorem dX4_worthOf_63 : decode cX4_worthOf 63 = .ok (.iload 4, 2) := by decide +kernel
theorem dX4_worthOf_65 : decode cX4_worthOf 65 = .ok (.aload_n 0, 1) := by decide +kernel
theorem dX4_worthOf_66 : decode cX4_worthOf 66 = .ok (.getfield 35, 3) := by decide +kernel
theorem dX4_worthOf_69 : decode cX4_worthOf 69 = .ok (.aload_n 0, 1) := by decide +kernel
theorem dX4_worthOf_70 : decode cX4_worthOf 70 = .ok (.iload_n 3, 1) := by decide +kernel
theorem dX4_worthOf_71 : decode cX4_worthOf 71 = .ok (.invokevirtual 109, 3) := by decide +kernel
theorem dX4_worthOf_74 : decode cX4_worthOf 74 = .ok (.iaload, 1) := by decide +kernel
theorem dX4_worthOf_75 : decode cX4_worthOf 75 = .ok (.if_icmp .le 6, 3) := by decide +kernel
theorem dX4_worthOf_78 : decode cX4_worthOf 78 = .ok (.bipush (-9), 2) := by decide +kernel
theorem dX4_worthOf_80 : decode cX4_worthOf 80 = .ok (.ireturn, 1) := by decide +kernel
theorem dX4_worthOf_81 : decode cX4_worthOf 81 = .ok (.iinc 3 1, 3) := by decide +kernel
theorem dX4_worthOf_84 : decode cX4_worthOf 84 = .ok (.goto (-80), 3) := by decide +kernel
theorem dX4_worthOf_87 : decode cX4_worthOf 87 = .ok (.iconst 0, 1) := by decide +kernel
theorem dX4_worthOf_88 : decode cX4_worthOf 88 = .ok (.istore_n 3, 1) := by decide +kernel
theorem dX4_worthOf_89 : decode cX4_worthOf 89 = .ok (.iload_n 3, 1) := by decide +kernel
theorem dX4_worthOf_90 : decode cX4_worthOf 90 = .ok (.aload_n 0, 1) := by decide +kernel
theorem dX4_worthOf_91 : decode cX4_worthOf 91 = .ok (.getfield 26, 3) := by decide +kernel
theorem dX4_worthOf_94 : decode cX4_worthOf 94 = .ok (.iconst 0, 1) := by decide +kernel
theorem dX4_worthOf_95 : decode cX4_worthOf 95 = .ok (.iaload, 1) := by decide +kernel
theorem dX4_worthOf_96 : decode cX4_worthOf 96 = .ok (.if_icmp .ge 31, 3) := by decide +kernel
theorem dX4_worthOf_99 : decode cX4_worthOf 99 = .ok (.iload_n 2, 1) := by decide +kernel
theorem dX4_worthOf_100 : decode cX4_worthOf 100 = .ok (.iload_n 1, 1) := by decide +kernel
theorem dX4_worthOf_101 : decode cX4_worthOf 101 = .ok (.iload_n 3, 1) := by decide +kernel
theorem dX4_worthOf_102 : decode cX4_worthOf 102 = .ok (.ishr, 1) := by decide +kernel
theorem dX4_worthOf_103 : decode cX4_worthOf 103 = .ok (.iconst 1, 1) := by decide +kernel
theorem dX4_worthOf_104 : decode cX4_worthOf 104 = .ok (.iand, 1) := by decide +kernel
theorem dX4_worthOf_105 : decode cX4_worthOf 105 = .ok (.iconst 1, 1) := by decide +kernel
theorem dX4_worthOf_106 : decode cX4_worthOf 106 = .ok (.if_icmp .ne 12, 3) := by decide +kernel
theorem dX4_worthOf_109 : decode cX4_worthOf 109 = .ok (.aload_n 0, 1) := by decide +kernel
theorem dX4_worthOf_110 : decode cX4_worthOf 110 = .ok (.getfield 29, 3) := by decide +kernel
theorem dX4_worthOf_113 : decode cX4_worthOf 113 = .ok (.iload_n 3, 1) := by decide +kernel
theorem dX4_worthOf_114 : decode cX4_worthOf 114 = .ok (.iaload, 1) := by decide +kernel
theorem dX4_worthOf_115 : decode cX4_worthOf 115 = .ok (.goto 4, 3) := by decide +kernel
theorem dX4_worthOf_118 : decode cX4_worthOf 118 = .ok (.iconst 0, 1) := by decide +kernel
theorem dX4_worthOf_119 : decode cX4_worthOf 119 = .ok (.iadd, 1) := by decide +kernel
theorem dX4_worthOf_120 : decode cX4_worthOf 120 = .ok (.istore_n 2, 1) := by decide +kernel
theorem dX4_worthOf_121 : decode cX4_worthOf 121 = .ok (.iinc 3 1, 3) := by decide +kernel
theorem dX4_worthOf_124 : decode cX4_worthOf 124 = .ok (.goto (-35), 3) := by decide +kernel
theorem dX4_worthOf_127 : decode cX4_worthOf 127 = .ok (.iload_n 2, 1) := by decide +kernel
theorem dX4_worthOf_128 : decode cX4_worthOf 128 = .ok (.ireturn, 1) := by decide +kernel
theorem dX4_tray_0 : decode cX4_tray 0 = .ok (.iload_n 1, 1) := by decide +kernel
theorem dX4_tray_1 : decode cX4_tray 1 = .ok (.iconst 0, 1) := by decide +kernel
theorem dX4_tray_2 : decode cX4_tray 2 = .ok (.iconst 1, 1) := by decide +kernel
theorem dX4_tray_3 : decode cX4_tray 3 = .ok (.invokestatic 57, 3) := by decide +kernel
theorem dX4_tray_6 : decode cX4_tray 6 = .ok (.ifCond .ne 5, 3) := by decide +kernel
theorem dX4_tray_9 : decode cX4_tray 9 = .ok (.iconst (-1), 1) := by decide +kernel
theorem dX4_tray_10 : decode cX4_tray 10 = .ok (.ireturn, 1) := by decide +kernel
theorem dX4_tray_11 : decode cX4_tray 11 = .ok (.iconst 0, 1) := by decide +kernel
theorem dX4_tray_12 : decode cX4_tray 12 = .ok (.istore_n 2, 1) := by decide +kernel
theorem dX4_tray_13 : decode cX4_tray 13 = .ok (.iconst 0, 1) := by decide +kernel
theorem dX4_tray_14 : decode cX4_tray 14 = .ok (.istore_n 3, 1) := by decide +kernel
theorem dX4_tray_15 : decode cX4_tray 15 = .ok (.iconst 1, 1) := by decide +kernel
theorem dX4_tray_16 : decode cX4_tray 16 = .ok (.istore 4, 2) := by decide +kernel
theorem dX4_tray_18 : decode cX4_tray 18 = .ok (.iload 4, 2) := by decide +kernel
theorem dX4_tray_20 : decode cX4_tray 20 = .ok (.iconst 1, 1) := by decide +kernel
theorem dX4_tray_21 : decode cX4_tray 21 = .ok (.aload_n 0, 1) := by decide +kernel
theorem dX4_tray_22 : decode cX4_tray 22 = .ok (.getfield 26, 3) := by decide +kernel
theorem dX4_tray_25 : decode cX4_tray 25 = .ok (.iconst 0, 1) := by decide +kernel
theorem dX4_tray_26 : decode cX4_tray 26 = .ok (.iaload, 1) := by decide +kernel
theorem dX4_tray_27 : decode cX4_tray 27 = .ok (.ishl, 1) := by decide +kernel
theorem dX4_tray_28 : decode cX4_tray 28 = .ok (.if_icmp .ge 47, 3) := by decide +kernel
theorem dX4_tray_31 : decode cX4_tray 31 = .ok (.iload 4, 2) := by decide +kernel
theorem dX4_tray_33 : decode cX4_tray 33 = .ok (.aload_n 0, 1) := by decide +kernel
theorem dX4_tray_34 : decode cX4_tray 34 = .ok (.getfield 35, 3) := by decide +kernel
theorem dX4_tray_37 : decode cX4_tray 37 = .ok (.bipush 19, 2) := by decide +kernel
theorem dX4_tray_39 : decode cX4_tray 39 = .ok (.iaload, 1) := by decide +kernel
theorem dX4_tray_40 : decode cX4_tray 40 = .ok (.iand, 1) := by decide +kernel
theorem dX4_tray_41 : decode cX4_tray 41 = .ok (.ifCond .ne 12, 3) := by decide +kernel
theorem dX4_tray_44 : decode cX4_tray 44 = .ok (.aload_n 0, 1) := by decide +kernel
theorem dX4_tray_45 : decode cX4_tray 45 = .ok (.iload 4, 2) := by decide +kernel
theorem dX4_tray_47 : decode cX4_tray 47 = .ok (.invokevirtual 150, 3) := by decide +kernel
theorem dX4_tray_50 : decode cX4_tray 50 = .ok (.goto 5, 3) := by decide +kernel
theorem dX4_tray_53 : decode cX4_tray 53 = .ok (.bipush (-9), 2) := by decide +kernel
theorem dX4_tray_55 : decode cX4_tray 55 = .ok (.istore 5, 2) := by decide +kernel
theorem dX4_tray_57 : decode cX4_tray 57 = .ok (.iload 5, 2) := by decide +kernel
theorem dX4_tray_59 : decode cX4_tray 59 = .ok (.iload_n 3, 1) := by decide +kernel
theorem dX4_tray_60 : decode cX4_tray 60 = .ok (.if_icmp .le 9, 3) := by decide +kernel
theorem dX4_tray_63 : decode cX4_tray 63 = .ok (.iload 4, 2) := by decide +kernel
theorem dX4_tray_65 : decode cX4_tray 65 = .ok (.istore_n 2, 1) := by decide +kernel
theorem dX4_tray_66 : decode cX4_tray 66 = .ok (.iload 5, 2) := by decide +kernel
theorem dX4_tray_68 : decode cX4_tray 68 = .ok (.istore_n 3, 1) := by decide +kernel
theorem dX4_tray_69 : decode cX4_tray 69 = .ok (.iinc 4 1, 3) := by decide +kernel
theorem dX4_tray_72 : decode cX4_tray 72 = .ok (.goto (-54), 3) := by decide +kernel
theorem dX4_tray_75 : decode cX4_tray 75 = .ok (.iload_n 1, 1) := by decide +kernel
theorem dX4_tray_76 : decode cX4_tray 76 = .ok (.ifCond .ne 7, 3) := by decide +kernel
theorem dX4_tray_79 : decode cX4_tray 79 = .ok (.iload_n 2, 1) := by decide +kernel
theorem dX4_tray_80 : decode cX4_tray 80 = .ok (.goto 4, 3) := by decide +kernel
theorem dX4_tray_83 : decode cX4_tray 83 = .ok (.iload_n 3, 1) := by decide +kernel
theorem dX4_tray_84 : decode cX4_tray 84 = .ok (.ireturn, 1) := by decide +kernel
theorem dX4_right_0 : decode cX4_right 0 = .ok (.iload_n 1, 1) := by decide +kernel
theorem dX4_right_1 : decode cX4_right 1 = .ok (.iconst 0, 1) := by decide +kernel
theorem dX4_right_2 : decode cX4_right 2 = .ok (.iconst 1, 1) := by decide +kernel
theorem dX4_right_3 : decode cX4_right 3 = .ok (.invokestatic 57, 3) := by decide +kernel
theorem dX4_right_6 : decode cX4_right 6 = .ok (.ifCond .ne 5, 3) := by decide +kernel
theorem dX4_right_9 : decode cX4_right 9 = .ok (.iconst (-1), 1) := by decide +kernel
theorem dX4_right_10 : decode cX4_right 10 = .ok (.ireturn, 1) := by decide +kernel
theorem dX4_right_11 : decode cX4_right 11 = .ok (.iconst 0, 1) := by decide +kernel
theorem dX4_right_12 : decode cX4_right 12 = .ok (.istore_n 2, 1) := by decide +kernel
theorem dX4_right_13 : decode cX4_right 13 = .ok (.iconst 0, 1) := by decide +kernel
theorem dX4_right_14 : decode cX4_right 14 = .ok (.istore_n 3, 1) := by decide +kernel
theorem dX4_right_15 : decode cX4_right 15 = .ok (.iconst 0, 1) := by decide +kernel
theorem dX4_right_16 : decode cX4_right 16 = .ok (.istore 4, 2) := by decide +kernel
theorem dX4_right_18 : decode cX4_right 18 = .ok (.iload 4, 2) := by decide +kernel
theorem dX4_right_20 : decode cX4_right 20 = .ok (.aload_n 0, 1) := by decide +kernel
theorem dX4_right_21 : decode cX4_right 21 = .ok (.getfield 13, 3) := by decide +kernel
theorem dX4_right_24 : decode cX4_right 24 = .ok (.iconst 0, 1) := by decide +kernel
theorem dX4_right_25 : decode cX4_right 25 = .ok (.iaload, 1) := by decide +kernel
theorem dX4_right_26 : decode cX4_right 26 = .ok (.if_icmp .ge 61, 3) := by decide +kernel
theorem dX4_right_29 : decode cX4_right 29 = .ok (.iload_n 3, 1) := by decide +kernel
theorem dX4_right_30 : decode cX4_right 30 = .ok (.iload_n 2, 1) := by decide +kernel
theorem dX4_right_31 : decode cX4_right 31 = .ok (.iload 4, 2) := by decide +kernel
theorem dX4_right_33 : decode cX4_right 33 = .ok (.ishr, 1) := by decide +kernel
theorem dX4_right_34 : decode cX4_right 34 = .ok (.iconst 1, 1) := by decide +kernel
theorem dX4_right_35 : decode cX4_right 35 = .ok (.iand, 1) := by decide +kernel
theorem dX4_right_36 : decode cX4_right 36 = .ok (.ifCond .ne 7, 3) := by decide +kernel
theorem dX4_right_39 : decode cX4_right 39 = .ok (.iconst 1, 1) := by decide +kernel
theorem dX4_right_40 : decode cX4_right 40 = .ok (.goto 4, 3) := by decide +kernel
theorem dX4_right_43 : decode cX4_right 43 = .ok (.iconst 0, 1) := by decide +kernel
theorem dX4_right_44 : decode cX4_right 44 = .ok (.iadd, 1) := by decide +kernel
theorem dX4_right_45 : decode cX4_right 45 = .ok (.istore_n 3, 1) := by decide +kernel
theorem dX4_right_46 : decode cX4_right 46 = .ok (.iload 4, 2) := by decide +kernel
theorem dX4_right_48 : decode cX4_right 48 = .ok (.istore 5, 2) := by decide +kernel
theorem dX4_right_50 : decode cX4_right 50 = .ok (.iload_n 2, 1) := by decide +kernel
theorem dX4_right_51 : decode cX4_right 51 = .ok (.iload 5, 2) := by decide +kernel
theorem dX4_right_53 : decode cX4_right 53 = .ok (.ishr, 1) := by decide +kernel
theorem dX4_right_54 : decode cX4_right 54 = .ok (.iconst 1, 1) := by decide +kernel
theorem dX4_right_55 : decode cX4_right 55 = .ok (.iand, 1) := by decide +kernel
theorem dX4_right_56 : decode cX4_right 56 = .ok (.ifCond .ne 25, 3) := by decide +kernel
theorem dX4_right_59 : decode cX4_right 59 = .ok (.iload_n 2, 1) := by decide +kernel
theorem dX4_right_60 : decode cX4_right 60 = .ok (.iconst 1, 1) := by decide +kernel
theorem dX4_right_61 : decode cX4_right 61 = .ok (.iload 5, 2) := by decide +kernel
theorem dX4_right_63 : decode cX4_right 63 = .ok (.ishl, 1) := by decide +kernel
theorem dX4_right_64 : decode cX4_right 64 = .ok (.ior, 1) := by decide +kernel
theorem dX4_right_65 : decode cX4_right 65 = .ok (.istore_n 2, 1) := by decide +kernel
theorem dX4_right_66 : decode cX4_right 66 = .ok (.aload_n 0, 1) := by decide +kernel
theorem dX4_right_67 : decode cX4_right 67 = .ok (.getfield 35, 3) := by decide +kernel
theorem dX4_right_70 : decode cX4_right 70 = .ok (.bipush 12, 2) := by decide +kernel
theorem dX4_right_72 : decode cX4_right 72 = .ok (.iload 5, 2) := by decide +kernel
theorem dX4_right_74 : decode cX4_right 74 = .ok (.iadd, 1) := by decide +kernel
theorem dX4_right_75 : decode cX4_right 75 = .ok (.iaload, 1) := by decide +kernel
theorem dX4_right_76 : decode cX4_right 76 = .ok (.istore 5, 2) := by decide +kernel
theorem dX4_right_78 : decode cX4_right 78 = .ok (.goto (-28), 3) := by decide +kernel
theorem dX4_right_81 : decode cX4_right 81 = .ok (.iinc 4 1, 3) := by decide +kernel
theorem dX4_right_84 : decode cX4_right 84 = .ok (.goto (-66), 3) := by decide +kernel
theorem dX4_right_87 : decode cX4_right 87 = .ok (.bipush (-9), 2) := by decide +kernel
theorem dX4_right_89 : decode cX4_right 89 = .ok (.istore 4, 2) := by decide +kernel
theorem dX4_right_91 : decode cX4_right 91 = .ok (.aload_n 0, 1) := by decide +kernel
theorem dX4_right_92 : decode cX4_right 92 = .ok (.getfield 13, 3) := by decide +kernel
theorem dX4_right_95 : decode cX4_right 95 = .ok (.iconst 0, 1) := by decide +kernel
theorem dX4_right_96 : decode cX4_right 96 = .ok (.iaload, 1) := by decide +kernel
theorem dX4_right_97 : decode cX4_right 97 = .ok (.iconst 1, 1) := by decide +kernel
theorem dX4_right_98 : decode cX4_right 98 = .ok (.isub, 1) := by decide +kernel
theorem dX4_right_99 : decode cX4_right 99 = .ok (.istore 5, 2) := by decide +kernel
theorem dX4_right_101 : decode cX4_right 101 = .ok (.iload 5, 2) := by decide +kernel
theorem dX4_right_103 : decode cX4_right 103 = .ok (.ifCond .lt 77, 3) := by decide +kernel
theorem dX4_right_106 : decode cX4_right 106 = .ok (.aload_n 0, 1) := by decide +kernel
theorem dX4_right_107 : decode cX4_right 107 = .ok (.getfield 13, 3) := by decide +kernel
theorem dX4_right_110 : decode cX4_right 110 = .ok (.iconst 0, 1) := by decide +kernel
theorem dX4_right_111 : decode cX4_right 111 = .ok (.iaload, 1) := by decide +kernel
theorem dX4_right_112 : decode cX4_right 112 = .ok (.iconst 1, 1) := by decide +kernel
theorem dX4_right_113 : decode cX4_right 113 = .ok (.isub, 1) := by decide +kernel
theorem dX4_right_114 : decode cX4_right 114 = .ok (.istore 6, 2) := by decide +kernel
theorem dX4_right_116 : decode cX4_right 116 = .ok (.iload 6, 2) := by decide +kernel
theorem dX4_right_118 : decode cX4_right 118 = .ok (.iload 5, 2) := by decide +kernel
theorem dX4_right_120 : decode cX4_right 120 = .ok (.if_icmp .le 54, 3) := by decide +kernel
theorem dX4_right_123 : decode cX4_right 123 = .ok (.aload_n 0, 1) := by decide +kernel
theorem dX4_right_124 : decode cX4_right 124 = .ok (.getfield 35, 3) := by decide +kernel
theorem dX4_right_127 : decode cX4_right 127 = .ok (.bipush 12, 2) := by decide +kernel
theorem dX4_right_129 : decode cX4_right 129 = .ok (.iload 5, 2) := by decide +kernel
theorem dX4_right_131 : decode cX4_right 131 = .ok (.iadd, 1) := by decide +kernel
theorem dX4_right_132 : decode cX4_right 132 = .ok (.iaload, 1) := by decide +kernel
theorem dX4_right_133 : decode cX4_right 133 = .ok (.iload 6, 2) := by decide +kernel
theorem dX4_right_135 : decode cX4_right 135 = .ok (.if_icmp .eq 18, 3) := by decide +kernel
theorem dX4_right_138 : decode cX4_right 138 = .ok (.aload_n 0, 1) := by decide +kernel
theorem dX4_right_139 : decode cX4_right 139 = .ok (.getfield 35, 3) := by decide +kernel
theorem dX4_right_142 : decode cX4_right 142 = .ok (.bipush 12, 2) := by decide +kernel
theorem dX4_right_144 : decode cX4_right 144 = .ok (.iload 6, 2) := by decide +kernel
theorem dX4_right_146 : decode cX4_right 146 = .ok (.iadd, 1) := by decide +kernel
theorem dX4_right_147 : decode cX4_right 147 = .ok (.iaload, 1) := by decide +kernel
theorem dX4_right_148 : decode cX4_right 148 = .ok (.iload 5, 2) := by decide +kernel
theorem dX4_right_150 : decode cX4_right 150 = .ok (.if_icmp .ne 14, 3) := by decide +kernel
theorem dX4_right_153 : decode cX4_right 153 = .ok (.bipush 10, 2) := by decide +kernel
theorem dX4_right_155 : decode cX4_right 155 = .ok (.iload 5, 2) := by decide +kernel
theorem dX4_right_157 : decode cX4_right 157 = .ok (.imul, 1) := by decide +kernel
theorem dX4_right_158 : decode cX4_right 158 = .ok (.iload 6, 2) := by decide +kernel
theorem dX4_right_160 : decode cX4_right 160 = .ok (.iadd, 1) := by decide +kernel
theorem dX4_right_161 : decode cX4_right 161 = .ok (.goto 5, 3) := by decide +kernel
theorem dX4_right_164 : decode cX4_right 164 = .ok (.iload 4, 2) := by decide +kernel
theorem dX4_right_166 : decode cX4_right 166 = .ok (.istore 4, 2) := by decide +kernel
theorem dX4_right_168 : decode cX4_right 168 = .ok (.iinc 6 (-1), 3) := by decide +kernel
theorem dX4_right_171 : decode cX4_right 171 = .ok (.goto (-55), 3) := by decide +kernel
theorem dX4_right_174 : decode cX4_right 174 = .ok (.iinc 5 (-1), 3) := by decide +kernel
theorem dX4_right_177 : decode cX4_right 177 = .ok (.goto (-76), 3) := by decide +kernel
theorem dX4_right_180 : decode cX4_right 180 = .ok (.iload_n 1, 1) := by decide +kernel
theorem dX4_right_181 : decode cX4_right 181 = .ok (.ifCond .ne 14, 3) := by decide +kernel
theorem dX4_right_184 : decode cX4_right 184 = .ok (.aload_n 0, 1) := by decide +kernel
theorem dX4_right_185 : decode cX4_right 185 = .ok (.getfield 13, 3) := by decide +kernel
theorem dX4_right_188 : decode cX4_right 188 = .ok (.iconst 0, 1) := by decide +kernel
theorem dX4_right_189 : decode cX4_right 189 = .ok (.iaload, 1) := by decide +kernel
theorem dX4_right_190 : decode cX4_right 190 = .ok (.iload_n 3, 1) := by decide +kernel
theorem dX4_right_191 : decode cX4_right 191 = .ok (.isub, 1) := by decide +kernel
theorem dX4_right_192 : decode cX4_right 192 = .ok (.goto 5, 3) := by decide +kernel
theorem dX4_right_195 : decode cX4_right 195 = .ok (.iload 4, 2) := by decide +kernel
theorem dX4_right_197 : decode cX4_right 197 = .ok (.ireturn, 1) := by decide +kernel
theorem dX4_share_0 : decode cX4_share 0 = .ok (.iload_n 1, 1) := by decide +kernel
theorem dX4_share_1 : decode cX4_share 1 = .ok (.iconst 0, 1) := by decide +kernel
theorem dX4_share_2 : decode cX4_share 2 = .ok (.iconst 1, 1) := by decide +kernel
theorem dX4_share_3 : decode cX4_share 3 = .ok (.invokestatic 57, 3) := by decide +kernel
theorem dX4_share_6 : decode cX4_share 6 = .ok (.ifCond .ne 5, 3) := by decide +kernel
theorem dX4_share_9 : decode cX4_share 9 = .ok (.iconst (-1), 1) := by decide +kernel
theorem dX4_share_10 : decode cX4_share 10 = .ok (.ireturn, 1) := by decide +kernel
theorem dX4_share_11 : decode cX4_share 11 = .ok (.bipush (-9), 2) := by decide +kernel
theorem dX4_share_13 : decode cX4_share 13 = .ok (.istore_n 2, 1) := by decide +kernel
theorem dX4_share_14 : decode cX4_share 14 = .ok (.iconst 0, 1) := by decide +kernel
theorem dX4_share_15 : decode cX4_share 15 = .ok (.istore_n 3, 1) := by decide +kernel
theorem dX4_share_16 : decode cX4_share 16 = .ok (.iconst 0, 1) := by decide +kernel
theorem dX4_share_17 : decode cX4_share 17 = .ok (.istore 4, 2) := by decide +kernel
theorem dX4_share_19 : decode cX4_share 19 = .ok (.iload 4, 2) := by decide +kernel
theorem dX4_share_21 : decode cX4_share 21 = .ok (.iconst 1, 1) := by decide +kernel
theorem dX4_share_22 : decode cX4_share 22 = .ok (.aload_n 0, 1) := by decide +kernel
theorem dX4_share_23 : decode cX4_share 23 = .ok (.getfield 13, 3) := by decide +kernel
theorem dX4_share_26 : decode cX4_share 26 = .ok (.iconst 0, 1) := by decide +kernel
theorem dX4_share_27 : decode cX4_share 27 = .ok (.iaload, 1) := by decide +kernel
theorem dX4_share_28 : decode cX4_share 28 = .ok (.ishl, 1) := by decide +kernel
theorem dX4_share_29 : decode cX4_share 29 = .ok (.if_icmp .ge 128, 3) := by decide +kernel
theorem dX4_share_32 : decode cX4_share 32 = .ok (.iconst 0, 1) := by decide +kernel
theorem dX4_share_33 : decode cX4_share 33 = .ok (.istore 5, 2) := by decide +kernel
theorem dX4_share_35 : decode cX4_share 35 = .ok (.iconst 0, 1) := by decide +kernel
theorem dX4_share_36 : decode cX4_share 36 = .ok (.istore 6, 2) := by decide +kernel
theorem dX4_share_38 : decode cX4_share 38 = .ok (.iload 6, 2) := by decide +kernel
theorem dX4_share_40 : decode cX4_share 40 = .ok (.aload_n 0, 1) := by decide +kernel
theorem dX4_share_41 : decode cX4_share 41 = .ok (.getfield 13, 3) := by decide +kernel
theorem dX4_share_44 : decode cX4_share 44 = .ok (.iconst 0, 1) := by decide +kernel
theorem dX4_share_45 : decode cX4_share 45 = .ok (.iaload, 1) := by decide +kernel
theorem dX4_share_46 : decode cX4_share 46 = .ok (.if_icmp .ge 43, 3) := by decide +kernel
theorem dX4_share_49 : decode cX4_share 49 = .ok (.iload 5, 2) := by decide +kernel
theorem dX4_share_51 : decode cX4_share 51 = .ok (.iload 4, 2) := by decide +kernel
theorem dX4_share_53 : decode cX4_share 53 = .ok (.iload 6, 2) := by decide +kernel
theorem dX4_share_55 : decode cX4_share 55 = .ok (.ishr, 1) := by decide +kernel
theorem dX4_share_56 : decode cX4_share 56 = .ok (.iconst 1, 1) := by decide +kernel
theorem dX4_share_57 : decode cX4_share 57 = .ok (.iand, 1) := by decide +kernel
theorem dX4_share_58 : decode cX4_share 58 = .ok (.iconst 1, 1) := by decide +kernel
theorem dX4_share_59 : decode cX4_share 59 = .ok (.if_icmp .ne 13, 3) := by decide +kernel
theorem dX4_share_62 : decode cX4_share 62 = .ok (.aload_n 0, 1) := by decide +kernel
theorem dX4_share_63 : decode cX4_share 63 = .ok (.getfield 35, 3) := by decide +kernel
theorem dX4_share_66 : decode cX4_share 66 = .ok (.iload 6, 2) := by decide +kernel
theorem dX4_share_68 : decode cX4_share 68 = .ok (.iaload, 1) := by decide +kernel
theorem dX4_share_69 : decode cX4_share 69 = .ok (.goto 11, 3) := by decide +kernel
theorem dX4_share_72 : decode cX4_share 72 = .ok (.aload_n 0, 1) := by decide +kernel
theorem dX4_share_73 : decode cX4_share 73 = .ok (.getfield 35, 3) := by decide +kernel
theorem dX4_share_76 : decode cX4_share 76 = .ok (.iload 6, 2) := by decide +kernel
theorem dX4_share_78 : decode cX4_share 78 = .ok (.iaload, 1) := by decide +kernel
theorem dX4_share_79 : decode cX4_share 79 = .ok (.ineg, 1) := by decide +kernel
theorem dX4_share_80 : decode cX4_share 80 = .ok (.iadd, 1) := by decide +kernel
theorem dX4_share_81 : decode cX4_share 81 = .ok (.istore 5, 2) := by decide +kernel
theorem dX4_share_83 : decode cX4_share 83 = .ok (.iinc 6 1, 3) := by decide +kernel
theorem dX4_share_86 : decode cX4_share 86 = .ok (.goto (-48), 3) := by decide +kernel
theorem dX4_share_89 : decode cX4_share 89 = .ok (.iload 5, 2) := by decide +kernel
theorem dX4_share_91 : decode cX4_share 91 = .ok (.ifCond .ge 9, 3) := by decide +kernel
theorem dX4_share_94 : decode cX4_share 94 = .ok (.iload 5, 2) := by decide +kernel
theorem dX4_share_96 : decode cX4_share 96 = .ok (.ineg, 1) := by decide +kernel
theorem dX4_share_97 : decode cX4_share 97 = .ok (.goto 5, 3) := by decide +kernel
theorem dX4_share_100 : decode cX4_share 100 = .ok (.iload 5, 2) := by decide +kernel
theorem dX4_share_102 : decode cX4_share 102 = .ok (.istore 5, 2) := by decide +kernel
theorem dX4_share_104 : decode cX4_share 104 = .ok (.aload_n 0, 1) := by decide +kernel
theorem dX4_share_105 : decode cX4_share 105 = .ok (.getfield 13, 3) := by decide +kernel
theorem dX4_share_108 : decode cX4_share 108 = .ok (.iconst 0, 1) := by decide +kernel
theorem dX4_share_109 : decode cX4_share 109 = .ok (.iaload, 1) := by decide +kernel
theorem dX4_share_110 : decode cX4_share 110 = .ok (.ifCond .eq 11, 3) := by decide +kernel
theorem dX4_share_113 : decode cX4_share 113 = .ok (.iload 4, 2) := by decide +kernel
theorem dX4_share_115 : decode cX4_share 115 = .ok (.iconst 1, 1) := by decide +kernel
theorem dX4_share_116 : decode cX4_share 116 = .ok (.iand, 1) := by decide +kernel
theorem dX4_share_117 : decode cX4_share 117 = .ok (.iconst 1, 1) := by decide +kernel
theorem dX4_share_118 : decode cX4_share 118 = .ok (.if_icmp .ne 7, 3) := by decide +kernel
theorem dX4_share_121 : decode cX4_share 121 = .ok (.iconst 1, 1) := by decide +kernel
theorem dX4_share_122 : decode cX4_share 122 = .ok (.goto 4, 3) := by decide +kernel
theorem dX4_share_125 : decode cX4_share 125 = .ok (.iconst 0, 1) := by decide +kernel
theorem dX4_share_126 : decode cX4_share 126 = .ok (.istore 6, 2) := by decide +kernel
theorem dX4_share_128 : decode cX4_share 128 = .ok (.iload 6, 2) := by decide +kernel
theorem dX4_share_130 : decode cX4_share 130 = .ok (.ifCond .eq 21, 3) := by decide +kernel
theorem dX4_share_133 : decode cX4_share 133 = .ok (.iload_n 2, 1) := by decide +kernel
theorem dX4_share_134 : decode cX4_share 134 = .ok (.bipush (-9), 2) := by decide +kernel
theorem dX4_share_136 : decode cX4_share 136 = .ok (.if_icmp .eq 9, 3) := by decide +kernel
theorem dX4_share_139 : decode cX4_share 139 = .ok (.iload 5, 2) := by decide +kernel
theorem dX4_share_141 : decode cX4_share 141 = .ok (.iload_n 3, 1) := by decide +kernel
theorem dX4_share_142 : decode cX4_share 142 = .ok (.if_icmp .ge 9, 3) := by decide +kernel
theorem dX4_share_145 : decode cX4_share 145 = .ok (.iload 4, 2) := by decide +kernel
theorem dX4_share_147 : decode cX4_share 147 = .ok (.istore_n 2, 1) := by decide +kernel
theorem dX4_share_148 : decode cX4_share 148 = .ok (.iload 5, 2) := by decide +kernel
theorem dX4_share_150 : decode cX4_share 150 = .ok (.istore_n 3, 1) := by decide +kernel
theorem dX4_share_151 : decode cX4_share 151 = .ok (.iinc 4 1, 3) := by decide +kernel
theorem dX4_share_154 : decode cX4_share 154 = .ok (.goto (-135), 3) := by decide +kernel
theorem dX4_share_157 : decode cX4_share 157 = .ok (.iload_n 1, 1) := by decide +kernel
theorem dX4_share_158 : decode cX4_share 158 = .ok (.ifCond .ne 7, 3) := by decide +kernel
theorem dX4_share_161 : decode cX4_share 161 = .ok (.iload_n 2, 1) := by decide +kernel
theorem dX4_share_162 : decode cX4_share 162 = .ok (.goto 4, 3) := by decide +kernel
theorem dX4_share_165 : decode cX4_share 165 = .ok (.iload_n 3, 1) := by decide +kernel
theorem dX4_share_166 : decode cX4_share 166 = .ok (.ireturn, 1) := by decide +kernel
theorem dX4_odds_0 : decode cX4_odds 0 = .ok (.aload_n 0, 1) := by decide +kernel
theorem dX4_odds_1 : decode cX4_odds 1 = .ok (.iload_n 1, 1) := by decide +kernel
theorem dX4_odds_2 : decode cX4_odds 2 = .ok (.invokevirtual 132, 3) := by decide +kernel
theorem dX4_odds_5 : decode cX4_odds 5 = .ok (.ifCond .eq 22, 3) := by decide +kernel
theorem dX4_odds_8 : decode cX4_odds 8 = .ok (.iload_n 2, 1) := by decide +kernel
theorem dX4_odds_9 : decode cX4_odds 9 = .ok (.iconst 0, 1) := by decide +kernel
theorem dX4_odds_10 : decode cX4_odds 10 = .ok (.bipush 10, 2) := by decide +kernel
theorem dX4_odds_12 : decode cX4_odds 12 = .ok (.invokestatic 57, 3) := by decide +kernel
theorem dX4_odds_15 : decode cX4_odds 15 = .ok (.ifCond .eq 12, 3) := by decide +kernel
theorem dX4_odds_18 : decode cX4_odds 18 = .ok (.iload_n 3, 1) := by decide +kernel
theorem dX4_odds_19 : decode cX4_odds 19 = .ok (.iconst 0, 1) := by decide +kernel
theorem dX4_odds_20 : decode cX4_odds 20 = .ok (.iconst 1, 1) := by decide +kernel
theorem dX4_odds_21 : decode cX4_odds 21 = .ok (.invokestatic 57, 3) := by decide +kernel
theorem dX4_odds_24 : decode cX4_odds 24 = .ok (.ifCond .ne 5, 3) := by decide +kernel
theorem dX4_odds_27 : decode cX4_odds 27 = .ok (.iconst (-1), 1) := by decide +kernel
theorem dX4_odds_28 : decode cX4_odds 28 = .ok (.ireturn, 1) := by decide +kernel
theorem dX4_odds_29 : decode cX4_odds 29 = .ok (.aload_n 0, 1) := by decide +kernel
theorem dX4_odds_30 : decode cX4_odds 30 = .ok (.iload_n 1, 1) := by decide +kernel
theorem dX4_odds_31 : decode cX4_odds 31 = .ok (.iconst 0, 1) := by decide +kernel
theorem dX4_odds_32 : decode cX4_odds 32 = .ok (.invokevirtual 122, 3) := by decide +kernel
theorem dX4_odds_35 : decode cX4_odds 35 = .ok (.ifCond .eq 7, 3) := by decide +kernel
theorem dX4_odds_38 : decode cX4_odds 38 = .ok (.iconst 1, 1) := by decide +kernel
theorem dX4_odds_39 : decode cX4_odds 39 = .ok (.goto 4, 3) := by decide +kernel
theorem dX4_odds_42 : decode cX4_odds 42 = .ok (.iconst 0, 1) := by decide +kernel
theorem dX4_odds_43 : decode cX4_odds 43 = .ok (.istore 4, 2) := by decide +kernel
theorem dX4_odds_45 : decode cX4_odds 45 = .ok (.iconst 1, 1) := by decide +kernel
theorem dX4_odds_46 : decode cX4_odds 46 = .ok (.istore 5, 2) := by decide +kernel
theorem dX4_odds_48 : decode cX4_odds 48 = .ok (.iconst 0, 1) := by decide +kernel
theorem dX4_odds_49 : decode cX4_odds 49 = .ok (.istore 6, 2) := by decide +kernel
theorem dX4_odds_51 : decode cX4_odds 51 = .ok (.iload 6, 2) := by decide +kernel
theorem dX4_odds_53 : decode cX4_odds 53 = .ok (.aload_n 0, 1) := by decide +kernel
theorem dX4_odds_54 : decode cX4_odds 54 = .ok (.getfield 13, 3) := by decide +kernel
theorem dX4_odds_57 : decode cX4_odds 57 = .ok (.iconst 0, 1) := by decide +kernel
theorem dX4_odds_58 : decode cX4_odds 58 = .ok (.iaload, 1) := by decide +kernel
theorem dX4_odds_59 : decode cX4_odds 59 = .ok (.if_icmp .ge 53, 3) := by decide +kernel
theorem dX4_odds_62 : decode cX4_odds 62 = .ok (.iload 4, 2) := by decide +kernel
theorem dX4_odds_64 : decode cX4_odds 64 = .ok (.aload_n 0, 1) := by decide +kernel
theorem dX4_odds_65 : decode cX4_odds 65 = .ok (.iload_n 1, 1) := by decide +kernel
theorem dX4_odds_66 : decode cX4_odds 66 = .ok (.iload 6, 2) := by decide +kernel
theorem dX4_odds_68 : decode cX4_odds 68 = .ok (.invokevirtual 116, 3) := by decide +kernel
theorem dX4_odds_71 : decode cX4_odds 71 = .ok (.ifCond .le 10, 3) := by decide +kernel
theorem dX4_odds_74 : decode cX4_odds 74 = .ok (.bipush 10, 2) := by decide +kernel
theorem dX4_odds_76 : decode cX4_odds 76 = .ok (.iload_n 2, 1) := by decide +kernel
theorem dX4_odds_77 : decode cX4_odds 77 = .ok (.isub, 1) := by decide +kernel
theorem dX4_odds_78 : decode cX4_odds 78 = .ok (.goto 4, 3) := by decide +kernel
theorem dX4_odds_81 : decode cX4_odds 81 = .ok (.iconst 1, 1) := by decide +kernel
theorem dX4_odds_82 : decode cX4_odds 82 = .ok (.imul, 1) := by decide +kernel
theorem dX4_odds_83 : decode cX4_odds 83 = .ok (.istore 4, 2) := by decide +kernel
theorem dX4_odds_85 : decode cX4_odds 85 = .ok (.iload 5, 2) := by decide +kernel
theorem dX4_odds_87 : decode cX4_odds 87 = .ok (.aload_n 0, 1) := by decide +kernel
theorem dX4_odds_88 : decode cX4_odds 88 = .ok (.iload_n 1, 1) := by decide +kernel
theorem dX4_odds_89 : decode cX4_odds 89 = .ok (.iload 6, 2) := by decide +kernel
theorem dX4_odds_91 : decode cX4_odds 91 = .ok (.invokevirtual 116, 3) := by decide +kernel
theorem dX4_odds_94 : decode cX4_odds 94 = .ok (.ifCond .le 8, 3) := by decide +kernel
theorem dX4_odds_97 : decode cX4_odds 97 = .ok (.bipush 10, 2) := by decide +kernel
theorem dX4_odds_99 : decode cX4_odds 99 = .ok (.goto 4, 3) := by decide +kernel
theorem dX4_odds_102 : decode cX4_odds 102 = .ok (.iconst 1, 1) := by decide +kernel
theorem dX4_odds_103 : decode cX4_odds 103 = .ok (.imul, 1) := by decide +kernel
theorem dX4_odds_104 : decode cX4_odds 104 = .ok (.istore 5, 2) := by decide +kernel
theorem dX4_odds_106 : decode cX4_odds 106 = .ok (.iinc 6 1, 3) := by decide +kernel
theorem dX4_odds_109 : decode cX4_odds 109 = .ok (.goto (-58), 3) := by decide +kernel
theorem dX4_odds_112 : decode cX4_odds 112 = .ok (.iload 4, 2) := by decide +kernel
theorem dX4_odds_114 : decode cX4_odds 114 = .ok (.istore 6, 2) := by decide +kernel
theorem dX4_odds_116 : decode cX4_odds 116 = .ok (.iload 5, 2) := by decide +kernel
theorem dX4_odds_118 : decode cX4_odds 118 = .ok (.istore 7, 2) := by decide +kernel
theorem dX4_odds_120 : decode cX4_odds 120 = .ok (.iload 7, 2) := by decide +kernel
theorem dX4_odds_122 : decode cX4_odds 122 = .ok (.ifCond .eq 21, 3) := by decide +kernel
theorem dX4_odds_125 : decode cX4_odds 125 = .ok (.iload 6, 2) := by decide +kernel
theorem dX4_odds_127 : decode cX4_odds 127 = .ok (.iload 7, 2) := by decide +kernel
theorem dX4_odds_129 : decode cX4_odds 129 = .ok (.irem, 1) := by decide +kernel
theorem dX4_odds_130 : decode cX4_odds 130 = .ok (.istore 8, 2) := by decide +kernel
theorem dX4_odds_132 : decode cX4_odds 132 = .ok (.iload 7, 2) := by decide +kernel
theorem dX4_odds_134 : decode cX4_odds 134 = .ok (.istore 6, 2) := by decide +kernel
theorem dX4_odds_136 : decode cX4_odds 136 = .ok (.iload 8, 2) := by decide +kernel
theorem dX4_odds_138 : decode cX4_odds 138 = .ok (.istore 7, 2) := by decide +kernel
theorem dX4_odds_140 : decode cX4_odds 140 = .ok (.goto (-20), 3) := by decide +kernel
theorem dX4_odds_143 : decode cX4_odds 143 = .ok (.iload_n 3, 1) := by decide +kernel
theorem dX4_odds_144 : decode cX4_odds 144 = .ok (.ifCond .ne 11, 3) := by decide +kernel
theorem dX4_odds_147 : decode cX4_odds 147 = .ok (.iload 4, 2) := by decide +kernel
theorem dX4_odds_149 : decode cX4_odds 149 = .ok (.iload 6, 2) := by decide +kernel
theorem dX4_odds_151 : decode cX4_odds 151 = .ok (.idiv, 1) := by decide +kernel
theorem dX4_odds_152 : decode cX4_odds 152 = .ok (.goto 8, 3) := by decide +kernel
theorem dX4_odds_155 : decode cX4_odds 155 = .ok (.iload 5, 2) := by decide +kernel
theorem dX4_odds_157 : decode cX4_odds 157 = .ok (.iload 6, 2) := by decide +kernel
theorem dX4_odds_159 : decode cX4_odds 159 = .ok (.idiv, 1) := by decide +kernel
theorem dX4_odds_160 : decode cX4_odds 160 = .ok (.ireturn, 1) := by decide +kernel
theorem dX4_tells_0 : decode cX4_tells 0 = .ok (.aload_n 0, 1) := by decide +kernel
theorem dX4_tells_1 : decode cX4_tells 1 = .ok (.iload_n 1, 1) := by decide +kernel
theorem dX4_tells_2 : decode cX4_tells 2 = .ok (.invokevirtual 132, 3) := by decide +kernel
theorem dX4_tells_5 : decode cX4_tells 5 = .ok (.ifCond .eq 12, 3) := by decide +kernel
theorem dX4_tells_8 : decode cX4_tells 8 = .ok (.iload_n 2, 1) := by decide +kernel
theorem dX4_tells_9 : decode cX4_tells 9 = .ok (.iconst 0, 1) := by decide +kernel
theorem dX4_tells_10 : decode cX4_tells 10 = .ok (.iconst 1, 1) := by decide +kernel
theorem dX4_tells_11 : decode cX4_tells 11 = .ok (.invokestatic 57, 3) := by decide +kernel
theorem dX4_tells_14 : decode cX4_tells 14 = .ok (.ifCond .ne 5, 3) := by decide +kernel
theorem dX4_tells_17 : decode cX4_tells 17 = .ok (.iconst (-1), 1) := by decide +kernel
theorem dX4_tells_18 : decode cX4_tells 18 = .ok (.ireturn, 1) := by decide +kernel
theorem dX4_tells_19 : decode cX4_tells 19 = .ok (.aload_n 0, 1) := by decide +kernel
theorem dX4_tells_20 : decode cX4_tells 20 = .ok (.getfield 98, 3) := by decide +kernel
theorem dX4_tells_23 : decode cX4_tells 23 = .ok (.bipush 6, 2) := by decide +kernel
theorem dX4_tells_25 : decode cX4_tells 25 = .ok (.if_icmp .ne 6, 3) := by decide +kernel
theorem dX4_tells_28 : decode cX4_tells 28 = .ok (.bipush (-3), 2) := by decide +kernel
theorem dX4_tells_30 : decode cX4_tells 30 = .ok (.ireturn, 1) := by decide +kernel
theorem dX4_tells_31 : decode cX4_tells 31 = .ok (.aload_n 0, 1) := by decide +kernel
theorem dX4_tells_32 : decode cX4_tells 32 = .ok (.getfield 42, 3) := by decide +kernel
theorem dX4_tells_35 : decode cX4_tells 35 = .ok (.aload_n 0, 1) := by decide +kernel
theorem dX4_tells_36 : decode cX4_tells 36 = .ok (.getfield 98, 3) := by decide +kernel
theorem dX4_tells_39 : decode cX4_tells 39 = .ok (.iload_n 1, 1) := by decide +kernel
theorem dX4_tells_40 : decode cX4_tells 40 = .ok (.iastore, 1) := by decide +kernel
theorem dX4_tells_41 : decode cX4_tells 41 = .ok (.aload_n 0, 1) := by decide +kernel
theorem dX4_tells_42 : decode cX4_tells 42 = .ok (.getfield 45, 3) := by decide +kernel
theorem dX4_tells_45 : decode cX4_tells 45 = .ok (.aload_n 0, 1) := by decide +kernel
theorem dX4_tells_46 : decode cX4_tells 46 = .ok (.getfield 98, 3) := by decide +kernel
theorem dX4_tells_49 : decode cX4_tells 49 = .ok (.iload_n 2, 1) := by decide +kernel
theorem dX4_tells_50 : decode cX4_tells 50 = .ok (.iastore, 1) := by decide +kernel
theorem dX4_tells_51 : decode cX4_tells 51 = .ok (.aload_n 0, 1) := by decide +kernel
theorem dX4_tells_52 : decode cX4_tells 52 = .ok (.dup, 1) := by decide +kernel
theorem dX4_tells_53 : decode cX4_tells 53 = .ok (.getfield 98, 3) := by decide +kernel
theorem dX4_tells_56 : decode cX4_tells 56 = .ok (.iconst 1, 1) := by decide +kernel
theorem dX4_tells_57 : decode cX4_tells 57 = .ok (.iadd, 1) := by decide +kernel
theorem dX4_tells_58 : decode cX4_tells 58 = .ok (.putfield 98, 3) := by decide +kernel
theorem dX4_tells_61 : decode cX4_tells 61 = .ok (.aload_n 0, 1) := by decide +kernel
theorem dX4_tells_62 : decode cX4_tells 62 = .ok (.getfield 98, 3) := by decide +kernel
theorem dX4_tells_65 : decode cX4_tells 65 = .ok (.ireturn, 1) := by decide +kernel
theorem dX4_forget_0 : decode cX4_forget 0 = .ok (.aload_n 0, 1) := by decide +kernel
theorem dX4_forget_1 : decode cX4_forget 1 = .ok (.getfield 98, 3) := by decide +kernel
theorem dX4_forget_4 : decode cX4_forget 4 = .ok (.istore_n 1, 1) := by decide +kernel
theorem dX4_forget_5 : decode cX4_forget 5 = .ok (.aload_n 0, 1) := by decide +kernel
theorem dX4_forget_6 : decode cX4_forget 6 = .ok (.iconst 0, 1) := by decide +kernel
theorem dX4_forget_7 : decode cX4_forget 7 = .ok (.putfield 98, 3) := by decide +kernel
theorem dX4_forget_10 : decode cX4_forget 10 = .ok (.iload_n 1, 1) := by decide +kernel
theorem dX4_forget_11 : decode cX4_forget 11 = .ok (.ireturn, 1) := by decide +kernel
theorem dX4_goOn_0 : decode cX4_goOn 0 = .ok (.aload_n 0, 1) := by decide +kernel
theorem dX4_goOn_1 : decode cX4_goOn 1 = .ok (.getfield 13, 3) := by decide +kernel
theorem dX4_goOn_4 : decode cX4_goOn 4 = .ok (.iconst 0, 1) := by decide +kernel
theorem dX4_goOn_5 : decode cX4_goOn 5 = .ok (.iaload, 1) := by decide +kernel
theorem dX4_goOn_6 : decode cX4_goOn 6 = .ok (.iconst 2, 1) := by decide +kernel
theorem dX4_goOn_7 : decode cX4_goOn 7 = .ok (.isub, 1) := by decide +kernel
theorem dX4_goOn_8 : decode cX4_goOn 8 = .ok (.istore_n 1, 1) := by decide +kernel
theorem dX4_goOn_9 : decode cX4_goOn 9 = .ok (.iload_n 1, 1) := by decide +kernel
theorem dX4_goOn_10 : decode cX4_goOn 10 = .ok (.ifCond .lt 26, 3) := by decide +kernel
theorem dX4_goOn_13 : decode cX4_goOn 13 = .ok (.aload_n 0, 1) := by decide +kernel
theorem dX4_goOn_14 : decode cX4_goOn 14 = .ok (.getfield 48, 3) := by decide +kernel
theorem dX4_goOn_17 : decode cX4_goOn 17 = .ok (.iload_n 1, 1) := by decide +kernel
theorem dX4_goOn_18 : decode cX4_goOn 18 = .ok (.iaload, 1) := by decide +kernel
theorem dX4_goOn_19 : decode cX4_goOn 19 = .ok (.aload_n 0, 1) := by decide +kernel
theorem dX4_goOn_20 : decode cX4_goOn 20 = .ok (.getfield 48, 3) := by decide +kernel
theorem dX4_goOn_23 : decode cX4_goOn 23 = .ok (.iload_n 1, 1) := by decide +kernel
theorem dX4_goOn_24 : decode cX4_goOn 24 = .ok (.iconst 1, 1) := by decide +kernel
theorem dX4_goOn_25 : decode cX4_goOn 25 = .ok (.iadd, 1) := by decide +kernel
theorem dX4_goOn_26 : decode cX4_goOn 26 = .ok (.iaload, 1) := by decide +kernel
theorem dX4_goOn_27 : decode cX4_goOn 27 = .ok (.if_icmp .le 9, 3) := by decide +kernel
theorem dX4_goOn_30 : decode cX4_goOn 30 = .ok (.iinc 1 (-1), 3) := by decide +kernel
theorem dX4_goOn_33 : decode cX4_goOn 33 = .ok (.goto (-24), 3) := by decide +kernel
theorem dX4_goOn_36 : decode cX4_goOn 36 = .ok (.iload_n 1, 1) := by decide +kernel
theorem dX4_goOn_37 : decode cX4_goOn 37 = .ok (.ifCond .ge 5, 3) := by decide +kernel
theorem dX4_goOn_40 : decode cX4_goOn 40 = .ok (.iconst 0, 1) := by decide +kernel
theorem dX4_goOn_41 : decode cX4_goOn 41 = .ok (.ireturn, 1) := by decide +kernel
theorem dX4_goOn_42 : decode cX4_goOn 42 = .ok (.aload_n 0, 1) := by decide +kernel
theorem dX4_goOn_43 : decode cX4_goOn 43 = .ok (.getfield 13, 3) := by decide +kernel
theorem dX4_goOn_46 : decode cX4_goOn 46 = .ok (.iconst 0, 1) := by decide +kernel
theorem dX4_goOn_47 : decode cX4_goOn 47 = .ok (.iaload, 1) := by decide +kernel
theorem dX4_goOn_48 : decode cX4_goOn 48 = .ok (.iconst 1, 1) := by decide +kernel
theorem dX4_goOn_49 : decode cX4_goOn 49 = .ok (.isub, 1) := by decide +kernel
theorem dX4_goOn_50 : decode cX4_goOn 50 = .ok (.istore_n 2, 1) := by decide +kernel
theorem dX4_goOn_51 : decode cX4_goOn 51 = .ok (.aload_n 0, 1) := by decide +kernel
theorem dX4_goOn_52 : decode cX4_goOn 52 = .ok (.getfield 48, 3) := by decide +kernel
theorem dX4_goOn_55 : decode cX4_goOn 55 = .ok (.iload_n 2, 1) := by decide +kernel
theorem dX4_goOn_56 : decode cX4_goOn 56 = .ok (.iaload, 1) := by decide +kernel
theorem dX4_goOn_57 : decode cX4_goOn 57 = .ok (.aload_n 0, 1) := by decide +kernel
theorem dX4_goOn_58 : decode cX4_goOn 58 = .ok (.getfield 48, 3) := by decide +kernel
theorem dX4_goOn_61 : decode cX4_goOn 61 = .ok (.iload_n 1, 1) := by decide +kernel
theorem dX4_goOn_62 : decode cX4_goOn 62 = .ok (.iaload, 1) := by decide +kernel
theorem dX4_goOn_63 : decode cX4_goOn 63 = .ok (.if_icmp .ge 9, 3) := by decide +kernel
theorem dX4_goOn_66 : decode cX4_goOn 66 = .ok (.iinc 2 (-1), 3) := by decide +kernel
theorem dX4_goOn_69 : decode cX4_goOn 69 = .ok (.goto (-18), 3) := by decide +kernel
theorem dX4_goOn_72 : decode cX4_goOn 72 = .ok (.aload_n 0, 1) := by decide +kernel
theorem dX4_goOn_73 : decode cX4_goOn 73 = .ok (.getfield 48, 3) := by decide +kernel
theorem dX4_goOn_76 : decode cX4_goOn 76 = .ok (.iload_n 1, 1) := by decide +kernel
theorem dX4_goOn_77 : decode cX4_goOn 77 = .ok (.iaload, 1) := by decide +kernel
theorem dX4_goOn_78 : decode cX4_goOn 78 = .ok (.istore_n 3, 1) := by decide +kernel
theorem dX4_goOn_79 : decode cX4_goOn 79 = .ok (.aload_n 0, 1) := by decide +kernel
theorem dX4_goOn_80 : decode cX4_goOn 80 = .ok (.getfield 48, 3) := by decide +kernel
theorem dX4_goOn_83 : decode cX4_goOn 83 = .ok (.iload_n 1, 1) := by decide +kernel
theorem dX4_goOn_84 : decode cX4_goOn 84 = .ok (.aload_n 0, 1) := by decide +kernel
theorem dX4_goOn_85 : decode cX4_goOn 85 = .ok (.getfield 48, 3) := by decide +kernel
theorem dX4_goOn_88 : decode cX4_goOn 88 = .ok (.iload_n 2, 1) := by decide +kernel
theorem dX4_goOn_89 : decode cX4_goOn 89 = .ok (.iaload, 1) := by decide +kernel
theorem dX4_goOn_90 : decode cX4_goOn 90 = .ok (.iastore, 1) := by decide +kernel
theorem dX4_goOn_91 : decode cX4_goOn 91 = .ok (.aload_n 0, 1) := by decide +kernel
theorem dX4_goOn_92 : decode cX4_goOn 92 = .ok (.getfield 48, 3) := by decide +kernel
theorem dX4_goOn_95 : decode cX4_goOn 95 = .ok (.iload_n 2, 1) := by decide +kernel
theorem dX4_goOn_96 : decode cX4_goOn 96 = .ok (.iload_n 3, 1) := by decide +kernel
theorem dX4_goOn_97 : decode cX4_goOn 97 = .ok (.iastore, 1) := by decide +kernel
theorem dX4_goOn_98 : decode cX4_goOn 98 = .ok (.iload_n 1, 1) := by decide +kernel
theorem dX4_goOn_99 : decode cX4_goOn 99 = .ok (.iconst 1, 1) := by decide +kernel
theorem dX4_goOn_100 : decode cX4_goOn 100 = .ok (.iadd, 1) := by decide +kernel
theorem dX4_goOn_101 : decode cX4_goOn 101 = .ok (.istore 4, 2) := by decide +kernel
theorem dX4_goOn_103 : decode cX4_goOn 103 = .ok (.aload_n 0, 1) := by decide +kernel
theorem dX4_goOn_104 : decode cX4_goOn 104 = .ok (.getfield 13, 3) := by decide +kernel
theorem dX4_goOn_107 : decode cX4_goOn 107 = .ok (.iconst 0, 1) := by decide +kernel
theorem dX4_goOn_108 : decode cX4_goOn 108 = .ok (.iaload, 1) := by decide +kernel
theorem dX4_goOn_109 : decode cX4_goOn 109 = .ok (.iconst 1, 1) := by decide +kernel
theorem dX4_goOn_110 : decode cX4_goOn 110 = .ok (.isub, 1) := by decide +kernel
theorem dX4_goOn_111 : decode cX4_goOn 111 = .ok (.istore 5, 2) := by decide +kernel
theorem dX4_goOn_113 : decode cX4_goOn 113 = .ok (.iload 4, 2) := by decide +kernel
theorem dX4_goOn_115 : decode cX4_goOn 115 = .ok (.iload 5, 2) := by decide +kernel
theorem dX4_goOn_117 : decode cX4_goOn 117 = .ok (.if_icmp .ge 42, 3) := by decide +kernel
theorem dX4_goOn_120 : decode cX4_goOn 120 = .ok (.aload_n 0, 1) := by decide +kernel
theorem dX4_goOn_121 : decode cX4_goOn 121 = .ok (.getfield 48, 3) := by decide +kernel
theorem dX4_goOn_124 : decode cX4_goOn 124 = .ok (.iload 4, 2) := by decide +kernel
theorem dX4_goOn_126 : decode cX4_goOn 126 = .ok (.iaload, 1) := by decide +kernel
theorem dX4_goOn_127 : decode cX4_goOn 127 = .ok (.istore_n 3, 1) := by decide +kernel
theorem dX4_goOn_128 : decode cX4_goOn 128 = .ok (.aload_n 0, 1) := by decide +kernel
theorem dX4_goOn_129 : decode cX4_goOn 129 = .ok (.getfield 48, 3) := by decide +kernel
theorem dX4_goOn_132 : decode cX4_goOn 132 = .ok (.iload 4, 2) := by decide +kernel
theorem dX4_goOn_134 : decode cX4_goOn 134 = .ok (.aload_n 0, 1) := by decide +kernel
theorem dX4_goOn_135 : decode cX4_goOn 135 = .ok (.getfield 48, 3) := by decide +kernel
theorem dX4_goOn_138 : decode cX4_goOn 138 = .ok (.iload 5, 2) := by decide +kernel
theorem dX4_goOn_140 : decode cX4_goOn 140 = .ok (.iaload, 1) := by decide +kernel
theorem dX4_goOn_141 : decode cX4_goOn 141 = .ok (.iastore, 1) := by decide +kernel
theorem dX4_goOn_142 : decode cX4_goOn 142 = .ok (.aload_n 0, 1) := by decide +kernel
theorem dX4_goOn_143 : decode cX4_goOn 143 = .ok (.getfield 48, 3) := by decide +kernel
theorem dX4_goOn_146 : decode cX4_goOn 146 = .ok (.iload 5, 2) := by decide +kernel
theorem dX4_goOn_148 : decode cX4_goOn 148 = .ok (.iload_n 3, 1) := by decide +kernel
theorem dX4_goOn_149 : decode cX4_goOn 149 = .ok (.iastore, 1) := by decide +kernel
theorem dX4_goOn_150 : decode cX4_goOn 150 = .ok (.iinc 4 1, 3) := by decide +kernel
theorem dX4_goOn_153 : decode cX4_goOn 153 = .ok (.iinc 5 (-1), 3) := by decide +kernel
theorem dX4_goOn_156 : decode cX4_goOn 156 = .ok (.goto (-43), 3) := by decide +kernel
theorem dX4_goOn_159 : decode cX4_goOn 159 = .ok (.iconst 1, 1) := by decide +kernel
theorem dX4_goOn_160 : decode cX4_goOn 160 = .ok (.ireturn, 1) := by decide +kernel
theorem dX4_isAsTold_0 : decode cX4_isAsTold 0 = .ok (.iconst 1, 1) := by decide +kernel
theorem dX4_isAsTold_1 : decode cX4_isAsTold 1 = .ok (.istore_n 1, 1) := by decide +kernel
theorem dX4_isAsTold_2 : decode cX4_isAsTold 2 = .ok (.iconst 0, 1) := by decide +kernel
theorem dX4_isAsTold_3 : decode cX4_isAsTold 3 = .ok (.istore_n 2, 1) := by decide +kernel
theorem dX4_isAsTold_4 : decode cX4_isAsTold 4 = .ok (.iload_n 2, 1) := by decide +kernel
theorem dX4_isAsTold_5 : decode cX4_isAsTold 5 = .ok (.aload_n 0, 1) := by decide +kernel
theorem dX4_isAsTold_6 : decode cX4_isAsTold 6 = .ok (.getfield 98, 3) := by decide +kernel
theorem dX4_isAsTold_9 : decode cX4_isAsTold 9 = .ok (.if_icmp .ge 97, 3) := by decide +kernel
theorem dX4_isAsTold_12 : decode cX4_isAsTold 12 = .ok (.iconst 1, 1) := by decide +kernel
theorem dX4_isAsTold_13 : decode cX4_isAsTold 13 = .ok (.istore_n 3, 1) := by decide +kernel
theorem dX4_isAsTold_14 : decode cX4_isAsTold 14 = .ok (.iconst 0, 1) := by decide +kernel
theorem dX4_isAsTold_15 : decode cX4_isAsTold 15 = .ok (.istore 4, 2) := by decide +kernel
theorem dX4_isAsTold_17 : decode cX4_isAsTold 17 = .ok (.iload 4, 2) := by decide +kernel
theorem dX4_isAsTold_19 : decode cX4_isAsTold 19 = .ok (.aload_n 0, 1) := by decide +kernel
theorem dX4_isAsTold_20 : decode cX4_isAsTold 20 = .ok (.getfield 13, 3) := by decide +kernel
theorem dX4_isAsTold_23 : decode cX4_isAsTold 23 = .ok (.iconst 0, 1) := by decide +kernel
theorem dX4_isAsTold_24 : decode cX4_isAsTold 24 = .ok (.iaload, 1) := by decide +kernel
theorem dX4_isAsTold_25 : decode cX4_isAsTold 25 = .ok (.if_icmp .ge 46, 3) := by decide +kernel
theorem dX4_isAsTold_28 : decode cX4_isAsTold 28 = .ok (.iload_n 3, 1) := by decide +kernel
theorem dX4_isAsTold_29 : decode cX4_isAsTold 29 = .ok (.ifCond .eq 34, 3) := by decide +kernel
theorem dX4_isAsTold_32 : decode cX4_isAsTold 32 = .ok (.aload_n 0, 1) := by decide +kernel
theorem dX4_isAsTold_33 : decode cX4_isAsTold 33 = .ok (.aload_n 0, 1) := by decide +kernel
theorem dX4_isAsTold_34 : decode cX4_isAsTold 34 = .ok (.getfield 42, 3) := by decide +kernel
theorem dX4_isAsTold_37 : decode cX4_isAsTold 37 = .ok (.iload_n 2, 1) := by decide +kernel
theorem dX4_isAsTold_38 : decode cX4_isAsTold 38 = .ok (.iaload, 1) := by decide +kernel
theorem dX4_isAsTold_39 : decode cX4_isAsTold 39 = .ok (.iload 4, 2) := by decide +kernel
theorem dX4_isAsTold_41 : decode cX4_isAsTold 41 = .ok (.invokevirtual 116, 3) := by decide +kernel
theorem dX4_isAsTold_44 : decode cX4_isAsTold 44 = .ok (.ifCond .eq 15, 3) := by decide +kernel
theorem dX4_isAsTold_47 : decode cX4_isAsTold 47 = .ok (.aload_n 0, 1) := by decide +kernel
theorem dX4_isAsTold_48 : decode cX4_isAsTold 48 = .ok (.getfield 48, 3) := by decide +kernel
theorem dX4_isAsTold_51 : decode cX4_isAsTold 51 = .ok (.iload 4, 2) := by decide +kernel
theorem dX4_isAsTold_53 : decode cX4_isAsTold 53 = .ok (.iaload, 1) := by decide +kernel
theorem dX4_isAsTold_54 : decode cX4_isAsTold 54 = .ok (.iload 4, 2) := by decide +kernel
theorem dX4_isAsTold_56 : decode cX4_isAsTold 56 = .ok (.if_icmp .ne 7, 3) := by decide +kernel
theorem dX4_isAsTold_59 : decode cX4_isAsTold 59 = .ok (.iconst 1, 1) := by decide +kernel
theorem dX4_isAsTold_60 : decode cX4_isAsTold 60 = .ok (.goto 4, 3) := by decide +kernel
theorem dX4_isAsTold_63 : decode cX4_isAsTold 63 = .ok (.iconst 0, 1) := by decide +kernel
theorem dX4_isAsTold_64 : decode cX4_isAsTold 64 = .ok (.istore_n 3, 1) := by decide +kernel
theorem dX4_isAsTold_65 : decode cX4_isAsTold 65 = .ok (.iinc 4 1, 3) := by decide +kernel
theorem dX4_isAsTold_68 : decode cX4_isAsTold 68 = .ok (.goto (-51), 3) := by decide +kernel
theorem dX4_isAsTold_71 : decode cX4_isAsTold 71 = .ok (.iload_n 1, 1) := by decide +kernel
theorem dX4_isAsTold_72 : decode cX4_isAsTold 72 = .ok (.ifCond .eq 26, 3) := by decide +kernel
theorem dX4_isAsTold_75 : decode cX4_isAsTold 75 = .ok (.iload_n 3, 1) := by decide +kernel
theorem dX4_isAsTold_76 : decode cX4_isAsTold 76 = .ok (.aload_n 0, 1) := by decide +kernel
theorem dX4_isAsTold_77 : decode cX4_isAsTold 77 = .ok (.getfield 45, 3) := by decide +kernel
theorem dX4_isAsTold_80 : decode cX4_isAsTold 80 = .ok (.iload_n 2, 1) := by decide +kernel
theorem dX4_isAsTold_81 : decode cX4_isAsTold 81 = .ok (.iaload, 1) := by decide +kernel
theorem dX4_isAsTold_82 : decode cX4_isAsTold 82 = .ok (.iconst 1, 1) := by decide +kernel
theorem dX4_isAsTold_83 : decode cX4_isAsTold 83 = .ok (.if_icmp .ne 7, 3) := by decide +kernel
theorem dX4_isAsTold_86 : decode cX4_isAsTold 86 = .ok (.iconst 1, 1) := by decide +kernel
theorem dX4_isAsTold_87 : decode cX4_isAsTold 87 = .ok (.goto 4, 3) := by decide +kernel
theorem dX4_isAsTold_90 : decode cX4_isAsTold 90 = .ok (.iconst 0, 1) := by decide +kernel
theorem dX4_isAsTold_91 : decode cX4_isAsTold 91 = .ok (.if_icmp .ne 7, 3) := by decide +kernel
theorem dX4_isAsTold_94 : decode cX4_isAsTold 94 = .ok (.iconst 1, 1) := by decide +kernel
theorem dX4_isAsTold_95 : decode cX4_isAsTold 95 = .ok (.goto 4, 3) := by decide +kernel
theorem dX4_isAsTold_98 : decode cX4_isAsTold 98 = .ok (.iconst 0, 1) := by decide +kernel
theorem dX4_isAsTold_99 : decode cX4_isAsTold 99 = .ok (.istore_n 1, 1) := by decide +kernel
theorem dX4_isAsTold_100 : decode cX4_isAsTold 100 = .ok (.iinc 2 1, 3) := by decide +kernel
theorem dX4_isAsTold_103 : decode cX4_isAsTold 103 = .ok (.goto (-99), 3) := by decide +kernel
theorem dX4_isAsTold_106 : decode cX4_isAsTold 106 = .ok (.iload_n 1, 1) := by decide +kernel
theorem dX4_isAsTold_107 : decode cX4_isAsTold 107 = .ok (.ireturn, 1) := by decide +kernel
theorem dX4_fits_0 : decode cX4_fits 0 = .ok (.iload_n 1, 1) := by decide +kernel
theorem dX4_fits_1 : decode cX4_fits 1 = .ok (.iconst (-1), 1) := by decide +kernel
theorem dX4_fits_2 : decode cX4_fits 2 = .ok (.if_icmp .eq 13, 3) := by decide +kernel
theorem dX4_fits_5 : decode cX4_fits 5 = .ok (.aload_n 0, 1) := by decide +kernel
theorem dX4_fits_6 : decode cX4_fits 6 = .ok (.iload_n 1, 1) := by decide +kernel
theorem dX4_fits_7 : decode cX4_fits 7 = .ok (.invokevirtual 126, 3) := by decide +kernel
theorem dX4_fits_10 : decode cX4_fits 10 = .ok (.ifCond .ne 5, 3) := by decide +kernel
theorem dX4_fits_13 : decode cX4_fits 13 = .ok (.iconst (-1), 1) := by decide +kernel
theorem dX4_fits_14 : decode cX4_fits 14 = .ok (.ireturn, 1) := by decide +kernel
theorem dX4_fits_15 : decode cX4_fits 15 = .ok (.iconst 0, 1) := by decide +kernel
theorem dX4_fits_16 : decode cX4_fits 16 = .ok (.istore_n 2, 1) := by decide +kernel
theorem dX4_fits_17 : decode cX4_fits 17 = .ok (.iload_n 2, 1) := by decide +kernel
theorem dX4_fits_18 : decode cX4_fits 18 = .ok (.bipush 6, 2) := by decide +kernel
theorem dX4_fits_20 : decode cX4_fits 20 = .ok (.if_icmp .ge 16, 3) := by decide +kernel
theorem dX4_fits_23 : decode cX4_fits 23 = .ok (.aload_n 0, 1) := by decide +kernel
theorem dX4_fits_24 : decode cX4_fits 24 = .ok (.getfield 48, 3) := by decide +kernel
theorem dX4_fits_27 : decode cX4_fits 27 = .ok (.iload_n 2, 1) := by decide +kernel
theorem dX4_fits_28 : decode cX4_fits 28 = .ok (.iload_n 2, 1) := by decide +kernel
theorem dX4_fits_29 : decode cX4_fits 29 = .ok (.iastore, 1) := by decide +kernel
theorem dX4_fits_30 : decode cX4_fits 30 = .ok (.iinc 2 1, 3) := by decide +kernel
theorem dX4_fits_33 : decode cX4_fits 33 = .ok (.goto (-16), 3) := by decide +kernel
theorem dX4_fits_36 : decode cX4_fits 36 = .ok (.iconst 0, 1) := by decide +kernel
theorem dX4_fits_37 : decode cX4_fits 37 = .ok (.istore_n 2, 1) := by decide +kernel
theorem dX4_fits_38 : decode cX4_fits 38 = .ok (.bipush (-9), 2) := by decide +kernel
theorem dX4_fits_40 : decode cX4_fits 40 = .ok (.istore_n 3, 1) := by decide +kernel
theorem dX4_fits_41 : decode cX4_fits 41 = .ok (.iconst 1, 1) := by decide +kernel
theorem dX4_fits_42 : decode cX4_fits 42 = .ok (.istore 4, 2) := by decide +kernel
theorem dX4_fits_44 : decode cX4_fits 44 = .ok (.iconst 1, 1) := by decide +kernel
theorem dX4_fits_45 : decode cX4_fits 45 = .ok (.istore 5, 2) := by decide +kernel
theorem dX4_fits_47 : decode cX4_fits 47 = .ok (.iload 5, 2) := by decide +kernel
theorem dX4_fits_49 : decode cX4_fits 49 = .ok (.ifCond .eq 64, 3) := by decide +kernel
theorem dX4_fits_52 : decode cX4_fits 52 = .ok (.aload_n 0, 1) := by decide +kernel
theorem dX4_fits_53 : decode cX4_fits 53 = .ok (.invokevirtual 153, 3) := by decide +kernel
theorem dX4_fits_56 : decode cX4_fits 56 = .ok (.ifCond .eq 48, 3) := by decide +kernel
theorem dX4_fits_59 : decode cX4_fits 59 = .ok (.iload_n 1, 1) := by decide +kernel
theorem dX4_fits_60 : decode cX4_fits 60 = .ok (.iconst (-1), 1) := by decide +kernel
theorem dX4_fits_61 : decode cX4_fits 61 = .ok (.if_icmp .ne 7, 3) := by decide +kernel
theorem dX4_fits_64 : decode cX4_fits 64 = .ok (.iconst 0, 1) := by decide +kernel
theorem dX4_fits_65 : decode cX4_fits 65 = .ok (.goto 9, 3) := by decide +kernel
theorem dX4_fits_68 : decode cX4_fits 68 = .ok (.aload_n 0, 1) := by decide +kernel
theorem dX4_fits_69 : decode cX4_fits 69 = .ok (.getfield 48, 3) := by decide +kernel
theorem dX4_fits_72 : decode cX4_fits 72 = .ok (.iload_n 1, 1) := by decide +kernel
theorem dX4_fits_73 : decode cX4_fits 73 = .ok (.iaload, 1) := by decide +kernel
theorem dX4_fits_74 : decode cX4_fits 74 = .ok (.istore 6, 2) := by decide +kernel
theorem dX4_fits_76 : decode cX4_fits 76 = .ok (.iload 4, 2) := by decide +kernel
theorem dX4_fits_78 : decode cX4_fits 78 = .ok (.ifCond .eq 17, 3) := by decide +kernel
theorem dX4_fits_81 : decode cX4_fits 81 = .ok (.iload_n 2, 1) := by decide +kernel
theorem dX4_fits_82 : decode cX4_fits 82 = .ok (.ifCond .eq 9, 3) := by decide +kernel
theorem dX4_fits_85 : decode cX4_fits 85 = .ok (.iload 6, 2) := by decide +kernel
theorem dX4_fits_87 : decode cX4_fits 87 = .ok (.iload_n 3, 1) := by decide +kernel
theorem dX4_fits_88 : decode cX4_fits 88 = .ok (.if_icmp .ne 7, 3) := by decide +kernel
theorem dX4_fits_91 : decode cX4_fits 91 = .ok (.iconst 1, 1) := by decide +kernel
theorem dX4_fits_92 : decode cX4_fits 92 = .ok (.goto 4, 3) := by decide +kernel
theorem dX4_fits_95 : decode cX4_fits 95 = .ok (.iconst 0, 1) := by decide +kernel
theorem dX4_fits_96 : decode cX4_fits 96 = .ok (.istore 4, 2) := by decide +kernel
theorem dX4_fits_98 : decode cX4_fits 98 = .ok (.iload 6, 2) := by decide +kernel
theorem dX4_fits_100 : decode cX4_fits 100 = .ok (.istore_n 3, 1) := by decide +kernel
theorem dX4_fits_101 : decode cX4_fits 101 = .ok (.iinc 2 1, 3) := by decide +kernel
theorem dX4_fits_104 : decode cX4_fits 104 = .ok (.aload_n 0, 1) := by decide +kernel
theorem dX4_fits_105 : decode cX4_fits 105 = .ok (.invokevirtual 157, 3) := by decide +kernel
theorem dX4_fits_108 : decode cX4_fits 108 = .ok (.istore 5, 2) := by decide +kernel
theorem dX4_fits_110 : decode cX4_fits 110 = .ok (.goto (-63), 3) := by decide +kernel
theorem dX4_fits_113 : decode cX4_fits 113 = .ok (.iload_n 1, 1) := by decide +kernel
theorem dX4_fits_114 : decode cX4_fits 114 = .ok (.iconst (-1), 1) := by decide +kernel
theorem dX4_fits_115 : decode cX4_fits 115 = .ok (.if_icmp .ne 7, 3) := by decide +kernel
theorem dX4_fits_118 : decode cX4_fits 118 = .ok (.iload_n 2, 1) := by decide +kernel
theorem dX4_fits_119 : decode cX4_fits 119 = .ok (.goto 14, 3) := by decide +kernel
theorem dX4_fits_122 : decode cX4_fits 122 = .ok (.iload 4, 2) := by decide +kernel
theorem dX4_fits_124 : decode cX4_fits 124 = .ok (.ifCond .eq 7, 3) := by decide +kernel
theorem dX4_fits_127 : decode cX4_fits 127 = .ok (.iload_n 3, 1) := by decide +kernel
theorem dX4_fits_128 : decode cX4_fits 128 = .ok (.goto 5, 3) := by decide +kernel
theorem dX4_fits_131 : decode cX4_fits 131 = .ok (.bipush (-9), 2) := by decide +kernel
theorem dX4_fits_133 : decode cX4_fits 133 = .ok (.ireturn, 1) := by decide +kernel
theorem dX4_mark_0 : decode cX4_mark 0 = .ok (.iload_n 1, 1) := by decide +kernel
theorem dX4_mark_1 : decode cX4_mark 1 = .ok (.iconst 0, 1) := by decide +kernel
theorem dX4_mark_2 : decode cX4_mark 2 = .ok (.iconst 5, 1) := by decide +kernel
theorem dX4_mark_3 : decode cX4_mark 3 = .ok (.invokestatic 57, 3) := by decide +kernel
theorem dX4_mark_6 : decode cX4_mark 6 = .ok (.ifCond .eq 11, 3) := by decide +kernel
theorem dX4_mark_9 : decode cX4_mark 9 = .ok (.aload_n 0, 1) := by decide +kernel
theorem dX4_mark_10 : decode cX4_mark 10 = .ok (.iload_n 2, 1) := by decide +kernel
theorem dX4_mark_11 : decode cX4_mark 11 = .ok (.invokevirtual 132, 3) := by decide +kernel
theorem dX4_mark_14 : decode cX4_mark 14 = .ok (.ifCond .ne 6, 3) := by decide +kernel
theorem dX4_mark_17 : decode cX4_mark 17 = .ok (.ldc 160, 2) := by decide +kernel
theorem dX4_mark_19 : decode cX4_mark 19 = .ok (.ireturn, 1) := by decide +kernel
theorem dX4_mark_20 : decode cX4_mark 20 = .ok (.aload_n 0, 1) := by decide +kernel
theorem dX4_mark_21 : decode cX4_mark 21 = .ok (.getfield 29, 3) := by decide +kernel
theorem dX4_mark_24 : decode cX4_mark 24 = .ok (.iload_n 2, 1) := by decide +kernel
theorem dX4_mark_25 : decode cX4_mark 25 = .ok (.iaload, 1) := by decide +kernel
theorem dX4_mark_26 : decode cX4_mark 26 = .ok (.aload_n 0, 1) := by decide +kernel
theorem dX4_mark_27 : decode cX4_mark 27 = .ok (.iload_n 2, 1) := by decide +kernel
theorem dX4_mark_28 : decode cX4_mark 28 = .ok (.invokevirtual 135, 3) := by decide +kernel
theorem dX4_mark_31 : decode cX4_mark 31 = .ok (.invokestatic 161, 3) := by decide +kernel
theorem dX4_mark_34 : decode cX4_mark 34 = .ok (.iadd, 1) := by decide +kernel
theorem dX4_mark_35 : decode cX4_mark 35 = .ok (.istore_n 3, 1) := by decide +kernel
theorem dX4_mark_36 : decode cX4_mark 36 = .ok (.aload_n 0, 1) := by decide +kernel
theorem dX4_mark_37 : decode cX4_mark 37 = .ok (.getfield 29, 3) := by decide +kernel
theorem dX4_mark_40 : decode cX4_mark 40 = .ok (.iload_n 2, 1) := by decide +kernel
theorem dX4_mark_41 : decode cX4_mark 41 = .ok (.iaload, 1) := by decide +kernel
theorem dX4_mark_42 : decode cX4_mark 42 = .ok (.istore 4, 2) := by decide +kernel
theorem dX4_mark_44 : decode cX4_mark 44 = .ok (.iconst 0, 1) := by decide +kernel
theorem dX4_mark_45 : decode cX4_mark 45 = .ok (.istore 5, 2) := by decide +kernel
theorem dX4_mark_47 : decode cX4_mark 47 = .ok (.iload 5, 2) := by decide +kernel
theorem dX4_mark_49 : decode cX4_mark 49 = .ok (.aload_n 0, 1) := by decide +kernel
theorem dX4_mark_50 : decode cX4_mark 50 = .ok (.getfield 13, 3) := by decide +kernel
theorem dX4_mark_53 : decode cX4_mark 53 = .ok (.iconst 0, 1) := by decide +kernel
theorem dX4_mark_54 : decode cX4_mark 54 = .ok (.iaload, 1) := by decide +kernel
theorem dX4_mark_55 : decode cX4_mark 55 = .ok (.if_icmp .ge 21, 3) := by decide +kernel
theorem dX4_mark_58 : decode cX4_mark 58 = .ok (.iload 4, 2) := by decide +kernel
theorem dX4_mark_60 : decode cX4_mark 60 = .ok (.aload_n 0, 1) := by decide +kernel
theorem dX4_mark_61 : decode cX4_mark 61 = .ok (.iload_n 2, 1) := by decide +kernel
theorem dX4_mark_62 : decode cX4_mark 62 = .ok (.iload 5, 2) := by decide +kernel
theorem dX4_mark_64 : decode cX4_mark 64 = .ok (.invokevirtual 116, 3) := by decide +kernel
theorem dX4_mark_67 : decode cX4_mark 67 = .ok (.isub, 1) := by decide +kernel
theorem dX4_mark_68 : decode cX4_mark 68 = .ok (.istore 4, 2) := by decide +kernel
theorem dX4_mark_70 : decode cX4_mark 70 = .ok (.iinc 5 1, 3) := by decide +kernel
theorem dX4_mark_73 : decode cX4_mark 73 = .ok (.goto (-26), 3) := by decide +kernel
theorem dX4_mark_76 : decode cX4_mark 76 = .ok (.iload_n 1, 1) := by decide +kernel
theorem dX4_mark_77 : decode cX4_mark 77 = .ok (.tableswitch 120 0 4 #[35, 52, 66, 81, 97], 35) := by decide +kernel
theorem dX4_mark_112 : decode cX4_mark 112 = .ok (.aload_n 0, 1) := by decide +kernel
theorem dX4_mark_113 : decode cX4_mark 113 = .ok (.dup, 1) := by decide +kernel
theorem dX4_mark_114 : decode cX4_mark 114 = .ok (.getfield 164, 3) := by decide +kernel
theorem dX4_mark_117 : decode cX4_mark 117 = .ok (.lconst 1, 1) := by decide +kernel
theorem dX4_mark_118 : decode cX4_mark 118 = .ok (.ladd, 1) := by decide +kernel
theorem dX4_mark_119 : decode cX4_mark 119 = .ok (.putfield 164, 3) := by decide +kernel
theorem dX4_mark_122 : decode cX4_mark 122 = .ok (.aload_n 0, 1) := by decide +kernel
theorem dX4_mark_123 : decode cX4_mark 123 = .ok (.getfield 29, 3) := by decide +kernel
theorem dX4_mark_126 : decode cX4_mark 126 = .ok (.iload_n 2, 1) := by decide +kernel
theorem dX4_mark_127 : decode cX4_mark 127 = .ok (.iaload, 1) := by decide +kernel
theorem dX4_mark_128 : decode cX4_mark 128 = .ok (.ireturn, 1) := by decide +kernel
theorem dX4_mark_129 : decode cX4_mark 129 = .ok (.aload_n 0, 1) := by decide +kernel
theorem dX4_mark_130 : decode cX4_mark 130 = .ok (.dup, 1) := by decide +kernel
theorem dX4_mark_131 : decode cX4_mark 131 = .ok (.getfield 164, 3) := by decide +kernel
theorem dX4_mark_134 : decode cX4_mark 134 = .ok (.ldc2_w 168, 3) := by decide +kernel
theorem dX4_mark_137 : decode cX4_mark 137 = .ok (.ladd, 1) := by decide +kernel
theorem dX4_mark_138 : decode cX4_mark 138 = .ok (.putfield 164, 3) := by decide +kernel
theorem dX4_mark_141 : decode cX4_mark 141 = .ok (.iload_n 3, 1) := by decide +kernel
theorem dX4_mark_142 : decode cX4_mark 142 = .ok (.ireturn, 1) := by decide +kernel
theorem dX4_mark_143 : decode cX4_mark 143 = .ok (.aload_n 0, 1) := by decide +kernel
theorem dX4_mark_144 : decode cX4_mark 144 = .ok (.dup, 1) := by decide +kernel
theorem dX4_mark_145 : decode cX4_mark 145 = .ok (.getfield 164, 3) := by decide +kernel
theorem dX4_mark_148 : decode cX4_mark 148 = .ok (.ldc2_w 170, 3) := by decide +kernel
theorem dX4_mark_151 : decode cX4_mark 151 = .ok (.ladd, 1) := by decide +kernel
theorem dX4_mark_152 : decode cX4_mark 152 = .ok (.putfield 164, 3) := by decide +kernel
theorem dX4_mark_155 : decode cX4_mark 155 = .ok (.iload 4, 2) := by decide +kernel
theorem dX4_mark_157 : decode cX4_mark 157 = .ok (.ireturn, 1) := by decide +kernel
theorem dX4_mark_158 : decode cX4_mark 158 = .ok (.aload_n 0, 1) := by decide +kernel
theorem dX4_mark_159 : decode cX4_mark 159 = .ok (.dup, 1) := by decide +kernel
theorem dX4_mark_160 : decode cX4_mark 160 = .ok (.getfield 164, 3) := by decide +kernel
theorem dX4_mark_163 : decode cX4_mark 163 = .ok (.ldc2_w 172, 3) := by decide +kernel
theorem dX4_mark_166 : decode cX4_mark 166 = .ok (.ladd, 1) := by decide +kernel
theorem dX4_mark_167 : decode cX4_mark 167 = .ok (.putfield 164, 3) := by decide +kernel
theorem dX4_mark_170 : decode cX4_mark 170 = .ok (.iconst 2, 1) := by decide +kernel
theorem dX4_mark_171 : decode cX4_mark 171 = .ok (.iload_n 3, 1) := by decide +kernel
theorem dX4_mark_172 : decode cX4_mark 172 = .ok (.imul, 1) := by decide +kernel
theorem dX4_mark_173 : decode cX4_mark 173 = .ok (.ireturn, 1) := by decide +kernel
theorem dX4_mark_174 : decode cX4_mark 174 = .ok (.aload_n 0, 1) := by decide +kernel
theorem dX4_mark_175 : decode cX4_mark 175 = .ok (.dup, 1) := by decide +kernel
theorem dX4_mark_176 : decode cX4_mark 176 = .ok (.getfield 164, 3) := by decide +kernel
theorem dX4_mark_179 : decode cX4_mark 179 = .ok (.ldc2_w 174, 3) := by decide +kernel
theorem dX4_mark_182 : decode cX4_mark 182 = .ok (.ladd, 1) := by decide +kernel
theorem dX4_mark_183 : decode cX4_mark 183 = .ok (.putfield 164, 3) := by decide +kernel
theorem dX4_mark_186 : decode cX4_mark 186 = .ok (.iload 4, 2) := by decide +kernel
theorem dX4_mark_188 : decode cX4_mark 188 = .ok (.aload_n 0, 1) := by decide +kernel
theorem dX4_mark_189 : decode cX4_mark 189 = .ok (.getfield 35, 3) := by decide +kernel
theorem dX4_mark_192 : decode cX4_mark 192 = .ok (.bipush 21, 2) := by decide +kernel
theorem dX4_mark_194 : decode cX4_mark 194 = .ok (.iaload, 1) := by decide +kernel
theorem dX4_mark_195 : decode cX4_mark 195 = .ok (.iadd, 1) := by decide +kernel
theorem dX4_mark_196 : decode cX4_mark 196 = .ok (.ireturn, 1) := by decide +kernel
theorem dX4_mark_197 : decode cX4_mark 197 = .ok (.aload_n 0, 1) := by decide +kernel
theorem dX4_mark_198 : decode cX4_mark 198 = .ok (.dup, 1) := by decide +kernel
theorem dX4_mark_199 : decode cX4_mark 199 = .ok (.getfield 164, 3) := by decide +kernel
theorem dX4_mark_202 : decode cX4_mark 202 = .ok (.ldc2_w 176, 3) := by decide +kernel
theorem dX4_mark_205 : decode cX4_mark 205 = .ok (.ladd, 1) := by decide +kernel
theorem dX4_mark_206 : decode cX4_mark 206 = .ok (.putfield 164, 3) := by decide +kernel
theorem dX4_mark_209 : decode cX4_mark 209 = .ok (.aload_n 0, 1) := by decide +kernel
theorem dX4_mark_210 : decode cX4_mark 210 = .ok (.getfield 29, 3) := by decide +kernel
theorem dX4_mark_213 : decode cX4_mark 213 = .ok (.iload_n 2, 1) := by decide +kernel
theorem dX4_mark_214 : decode cX4_mark 214 = .ok (.iaload, 1) := by decide +kernel
theorem dX4_mark_215 : decode cX4_mark 215 = .ok (.aload_n 0, 1) := by decide +kernel
theorem dX4_mark_216 : decode cX4_mark 216 = .ok (.getfield 35, 3) := by decide +kernel
theorem dX4_mark_219 : decode cX4_mark 219 = .ok (.bipush 18, 2) := by decide +kernel
theorem dX4_mark_221 : decode cX4_mark 221 = .ok (.iaload, 1) := by decide +kernel
theorem dX4_mark_222 : decode cX4_mark 222 = .ok (.iadd, 1) := by decide +kernel
theorem dX4_mark_223 : decode cX4_mark 223 = .ok (.ireturn, 1) := by decide +kernel
theorem dX4_keep_0 : decode cX4_keep 0 = .ok (.iload_n 1, 1) := by decide +kernel
theorem dX4_keep_1 : decode cX4_keep 1 = .ok (.iconst 0, 1) := by decide +kernel
theorem dX4_keep_2 : decode cX4_keep 2 = .ok (.iconst 1, 1) := by decide +kernel
theorem dX4_keep_3 : decode cX4_keep 3 = .ok (.invokestatic 57, 3) := by decide +kernel
theorem dX4_keep_6 : decode cX4_keep 6 = .ok (.ifCond .ne 5, 3) := by decide +kernel
theorem dX4_keep_9 : decode cX4_keep 9 = .ok (.iconst (-1), 1) := by decide +kernel
theorem dX4_keep_10 : decode cX4_keep 10 = .ok (.ireturn, 1) := by decide +kernel
theorem dX4_keep_11 : decode cX4_keep 11 = .ok (.iconst 0, 1) := by decide +kernel
theorem dX4_keep_12 : decode cX4_keep 12 = .ok (.istore_n 2, 1) := by decide +kernel
theorem dX4_keep_13 : decode cX4_keep 13 = .ok (.iload_n 2, 1) := by decide +kernel
theorem dX4_keep_14 : decode cX4_keep 14 = .ok (.sipush 243, 3) := by decide +kernel
theorem dX4_keep_17 : decode cX4_keep 17 = .ok (.if_icmp .ge 29, 3) := by decide +kernel
theorem dX4_keep_20 : decode cX4_keep 20 = .ok (.aload_n 0, 1) := by decide +kernel
theorem dX4_keep_21 : decode cX4_keep 21 = .ok (.getfield 35, 3) := by decide +kernel
theorem dX4_keep_24 : decode cX4_keep 24 = .ok (.sipush 243, 3) := by decide +kernel
theorem dX4_keep_27 : decode cX4_keep 27 = .ok (.iconst 1, 1) := by decide +kernel
theorem dX4_keep_28 : decode cX4_keep 28 = .ok (.iload_n 1, 1) := by decide +kernel
theorem dX4_keep_29 : decode cX4_keep 29 = .ok (.iadd, 1) := by decide +kernel
theorem dX4_keep_30 : decode cX4_keep 30 = .ok (.imul, 1) := by decide +kernel
theorem dX4_keep_31 : decode cX4_keep 31 = .ok (.iload_n 2, 1) := by decide +kernel
theorem dX4_keep_32 : decode cX4_keep 32 = .ok (.iadd, 1) := by decide +kernel
theorem dX4_keep_33 : decode cX4_keep 33 = .ok (.aload_n 0, 1) := by decide +kernel
theorem dX4_keep_34 : decode cX4_keep 34 = .ok (.getfield 35, 3) := by decide +kernel
theorem dX4_keep_37 : decode cX4_keep 37 = .ok (.iload_n 2, 1) := by decide +kernel
theorem dX4_keep_38 : decode cX4_keep 38 = .ok (.iaload, 1) := by decide +kernel
theorem dX4_keep_39 : decode cX4_keep 39 = .ok (.iastore, 1) := by decide +kernel
theorem dX4_keep_40 : decode cX4_keep 40 = .ok (.iinc 2 1, 3) := by decide +kernel
theorem dX4_keep_43 : decode cX4_keep 43 = .ok (.goto (-30), 3) := by decide +kernel
theorem dX4_keep_46 : decode cX4_keep 46 = .ok (.aload_n 0, 1) := by decide +kernel
theorem dX4_keep_47 : decode cX4_keep 47 = .ok (.getfield 38, 3) := by decide +kernel
theorem dX4_keep_50 : decode cX4_keep 50 = .ok (.iload_n 1, 1) := by decide +kernel
theorem dX4_keep_51 : decode cX4_keep 51 = .ok (.iconst 1, 1) := by decide +kernel
theorem dX4_keep_52 : decode cX4_keep 52 = .ok (.bastore, 1) := by decide +kernel
theorem dX4_keep_53 : decode cX4_keep 53 = .ok (.aload_n 0, 1) := by decide +kernel
theorem dX4_keep_54 : decode cX4_keep 54 = .ok (.getfield 35, 3) := by decide +kernel
theorem dX4_keep_57 : decode cX4_keep 57 = .ok (.bipush 18, 2) := by decide +kernel
theorem dX4_keep_59 : decode cX4_keep 59 = .ok (.iaload, 1) := by decide +kernel
theorem dX4_keep_60 : decode cX4_keep 60 = .ok (.ireturn, 1) := by decide +kernel
theorem dX4_back_0 : decode cX4_back 0 = .ok (.iload_n 1, 1) := by decide +kernel
theorem dX4_back_1 : decode cX4_back 1 = .ok (.iconst 0, 1) := by decide +kernel
theorem dX4_back_2 : decode cX4_back 2 = .ok (.iconst 1, 1) := by decide +kernel
theorem dX4_back_3 : decode cX4_back 3 = .ok (.invokestatic 57, 3) := by decide +kernel
theorem dX4_back_6 : decode cX4_back 6 = .ok (.ifCond .ne 5, 3) := by decide +kernel
theorem dX4_back_9 : decode cX4_back 9 = .ok (.iconst (-1), 1) := by decide +kernel
theorem dX4_back_10 : decode cX4_back 10 = .ok (.ireturn, 1) := by decide +kernel
theorem dX4_back_11 : decode cX4_back 11 = .ok (.aload_n 0, 1) := by decide +kernel
theorem dX4_back_12 : decode cX4_back 12 = .ok (.getfield 38, 3) := by decide +kernel
theorem dX4_back_15 : decode cX4_back 15 = .ok (.iload_n 1, 1) := by decide +kernel
theorem dX4_back_16 : decode cX4_back 16 = .ok (.baload, 1) := by decide +kernel
theorem dX4_back_17 : decode cX4_back 17 = .ok (.ifCond .ne 6, 3) := by decide +kernel
theorem dX4_back_20 : decode cX4_back 20 = .ok (.bipush (-2), 2) := by decide +kernel
theorem dX4_back_22 : decode cX4_back 22 = .ok (.ireturn, 1) := by decide +kernel
theorem dX4_back_23 : decode cX4_back 23 = .ok (.iconst 0, 1) := by decide +kernel
theorem dX4_back_24 : decode cX4_back 24 = .ok (.istore_n 2, 1) := by decide +kernel
theorem dX4_back_25 : decode cX4_back 25 = .ok (.iload_n 2, 1) := by decide +kernel
theorem dX4_back_26 : decode cX4_back 26 = .ok (.sipush 243, 3) := by decide +kernel
theorem dX4_back_29 : decode cX4_back 29 = .ok (.if_icmp .ge 29, 3) := by decide +kernel
theorem dX4_back_32 : decode cX4_back 32 = .ok (.aload_n 0, 1) := by decide +kernel
theorem dX4_back_33 : decode cX4_back 33 = .ok (.getfield 35, 3) := by decide +kernel
theorem dX4_back_36 : decode cX4_back 36 = .ok (.iload_n 2, 1) := by decide +kernel
theorem dX4_back_37 : decode cX4_back 37 = .ok (.aload_n 0, 1) := by decide +kernel
theorem dX4_back_38 : decode cX4_back 38 = .ok (.getfield 35, 3) := by decide +kernel
theorem dX4_back_41 : decode cX4_back 41 = .ok (.sipush 243, 3) := by decide +kernel
theorem dX4_back_44 : decode cX4_back 44 = .ok (.iconst 1, 1) := by decide +kernel
theorem dX4_back_45 : decode cX4_back 45 = .ok (.iload_n 1, 1) := by decide +kernel
theorem dX4_back_46 : decode cX4_back 46 = .ok (.iadd, 1) := by decide +kernel
theorem dX4_back_47 : decode cX4_back 47 = .ok (.imul, 1) := by decide +kernel
theorem dX4_back_48 : decode cX4_back 48 = .ok (.iload_n 2, 1) := by decide +kernel
theorem dX4_back_49 : decode cX4_back 49 = .ok (.iadd, 1) := by decide +kernel
theorem dX4_back_50 : decode cX4_back 50 = .ok (.iaload, 1) := by decide +kernel
theorem dX4_back_51 : decode cX4_back 51 = .ok (.iastore, 1) := by decide +kernel
theorem dX4_back_52 : decode cX4_back 52 = .ok (.iinc 2 1, 3) := by decide +kernel
theorem dX4_back_55 : decode cX4_back 55 = .ok (.goto (-30), 3) := by decide +kernel
theorem dX4_back_58 : decode cX4_back 58 = .ok (.aload_n 0, 1) := by decide +kernel
theorem dX4_back_59 : decode cX4_back 59 = .ok (.getfield 35, 3) := by decide +kernel
theorem dX4_back_62 : decode cX4_back 62 = .ok (.bipush 18, 2) := by decide +kernel
theorem dX4_back_64 : decode cX4_back 64 = .ok (.iaload, 1) := by decide +kernel
theorem dX4_back_65 : decode cX4_back 65 = .ok (.ireturn, 1) := by decide +kernel
theorem dX4_count_0 : decode cX4_count 0 = .ok (.iload_n 1, 1) := by decide +kernel
theorem dX4_count_1 : decode cX4_count 1 = .ok (.tableswitch 67 0 4 #[35, 42, 49, 54, 62], 35) := by decide +kernel
theorem dX4_count_36 : decode cX4_count 36 = .ok (.aload_n 0, 1) := by decide +kernel
theorem dX4_count_37 : decode cX4_count 37 = .ok (.getfield 13, 3) := by decide +kernel
theorem dX4_count_40 : decode cX4_count 40 = .ok (.iconst 0, 1) := by decide +kernel
theorem dX4_count_41 : decode cX4_count 41 = .ok (.iaload, 1) := by decide +kernel
theorem dX4_count_42 : decode cX4_count 42 = .ok (.ireturn, 1) := by decide +kernel
theorem dX4_count_43 : decode cX4_count 43 = .ok (.aload_n 0, 1) := by decide +kernel
theorem dX4_count_44 : decode cX4_count 44 = .ok (.getfield 26, 3) := by decide +kernel
theorem dX4_count_47 : decode cX4_count 47 = .ok (.iconst 0, 1) := by decide +kernel
theorem dX4_count_48 : decode cX4_count 48 = .ok (.iaload, 1) := by decide +kernel
theorem dX4_count_49 : decode cX4_count 49 = .ok (.ireturn, 1) := by decide +kernel
theorem dX4_count_50 : decode cX4_count 50 = .ok (.aload_n 0, 1) := by decide +kernel
theorem dX4_count_51 : decode cX4_count 51 = .ok (.getfield 98, 3) := by decide +kernel
theorem dX4_count_54 : decode cX4_count 54 = .ok (.ireturn, 1) := by decide +kernel
theorem dX4_count_55 : decode cX4_count 55 = .ok (.aload_n 0, 1) := by decide +kernel
theorem dX4_count_56 : decode cX4_count 56 = .ok (.getfield 35, 3) := by decide +kernel
theorem dX4_count_59 : decode cX4_count 59 = .ok (.bipush 22, 2) := by decide +kernel
theorem dX4_count_61 : decode cX4_count 61 = .ok (.iaload, 1) := by decide +kernel
theorem dX4_count_62 : decode cX4_count 62 = .ok (.ireturn, 1) := by decide +kernel
theorem dX4_count_63 : decode cX4_count 63 = .ok (.aload_n 0, 1) := by decide +kernel
theorem dX4_count_64 : decode cX4_count 64 = .ok (.getfield 61, 3) := by decide +kernel
theorem dX4_count_67 : decode cX4_count 67 = .ok (.ireturn, 1) := by decide +kernel
theorem dX4_count_68 : decode cX4_count 68 = .ok (.iconst (-1), 1) := by decide +kernel
theorem dX4_count_69 : decode cX4_count 69 = .ok (.ireturn, 1) := by decide +kernel
theorem dX4_trace_0 : decode cX4_trace 0 = .ok (.aload_n 0, 1) := by decide +kernel
theorem dX4_trace_1 : decode cX4_trace 1 = .ok (.getfield 164, 3) := by decide +kernel
theorem dX4_trace_4 : decode cX4_trace 4 = .ok (.lreturn, 1) := by decide +kernel
