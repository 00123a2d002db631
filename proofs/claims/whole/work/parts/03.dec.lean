theorem dX0_init_0 : decode cX0_init 0 = .ok (.aload_n 0, 1) := by decide +kernel
theorem dX0_init_1 : decode cX0_init 1 = .ok (.invokespecial 5, 3) := by decide +kernel
theorem dX0_init_4 : decode cX0_init 4 = .ok (.aload_n 0, 1) := by decide +kernel
theorem dX0_init_5 : decode cX0_init 5 = .ok (.bipush 6, 2) := by decide +kernel
theorem dX0_init_7 : decode cX0_init 7 = .ok (.newarray .int, 2) := by decide +kernel
theorem dX0_init_9 : decode cX0_init 9 = .ok (.putfield 11, 3) := by decide +kernel
theorem dX0_init_12 : decode cX0_init 12 = .ok (.aload_n 0, 1) := by decide +kernel
theorem dX0_init_13 : decode cX0_init 13 = .ok (.bipush 6, 2) := by decide +kernel
theorem dX0_init_15 : decode cX0_init 15 = .ok (.newarray .int, 2) := by decide +kernel
theorem dX0_init_17 : decode cX0_init 17 = .ok (.putfield 15, 3) := by decide +kernel
theorem dX0_init_20 : decode cX0_init 20 = .ok (.aload_n 0, 1) := by decide +kernel
theorem dX0_init_21 : decode cX0_init 21 = .ok (.bipush 6, 2) := by decide +kernel
theorem dX0_init_23 : decode cX0_init 23 = .ok (.newarray .int, 2) := by decide +kernel
theorem dX0_init_25 : decode cX0_init 25 = .ok (.putfield 18, 3) := by decide +kernel
theorem dX0_init_28 : decode cX0_init 28 = .ok (.aload_n 0, 1) := by decide +kernel
theorem dX0_init_29 : decode cX0_init 29 = .ok (.iconst 0, 1) := by decide +kernel
theorem dX0_init_30 : decode cX0_init 30 = .ok (.putfield 21, 3) := by decide +kernel
theorem dX0_init_33 : decode cX0_init 33 = .ok (.aload_n 0, 1) := by decide +kernel
theorem dX0_init_34 : decode cX0_init 34 = .ok (.iconst 0, 1) := by decide +kernel
theorem dX0_init_35 : decode cX0_init 35 = .ok (.putfield 25, 3) := by decide +kernel
theorem dX0_init_38 : decode cX0_init 38 = .ok (.aload_n 0, 1) := by decide +kernel
theorem dX0_init_39 : decode cX0_init 39 = .ok (.iconst 0, 1) := by decide +kernel
theorem dX0_init_40 : decode cX0_init 40 = .ok (.putfield 28, 3) := by decide +kernel
theorem dX0_init_43 : decode cX0_init 43 = .ok (.aload_n 0, 1) := by decide +kernel
theorem dX0_init_44 : decode cX0_init 44 = .ok (.iconst 0, 1) := by decide +kernel
theorem dX0_init_45 : decode cX0_init 45 = .ok (.putfield 31, 3) := by decide +kernel
theorem dX0_init_48 : decode cX0_init 48 = .ok (.aload_n 0, 1) := by decide +kernel
theorem dX0_init_49 : decode cX0_init 49 = .ok (.sipush 220, 3) := by decide +kernel
theorem dX0_init_52 : decode cX0_init 52 = .ok (.newarray .int, 2) := by decide +kernel
theorem dX0_init_54 : decode cX0_init 54 = .ok (.putfield 34, 3) := by decide +kernel
theorem dX0_init_57 : decode cX0_init 57 = .ok (.aload_n 0, 1) := by decide +kernel
theorem dX0_init_58 : decode cX0_init 58 = .ok (.iconst 0, 1) := by decide +kernel
theorem dX0_init_59 : decode cX0_init 59 = .ok (.putfield 37, 3) := by decide +kernel
theorem dX0_init_62 : decode cX0_init 62 = .ok (.return_, 1) := by decide +kernel
theorem dX0_begins_0 : decode cX0_begins 0 = .ok (.iconst 0, 1) := by decide +kernel
theorem dX0_begins_1 : decode cX0_begins 1 = .ok (.istore_n 2, 1) := by decide +kernel
theorem dX0_begins_2 : decode cX0_begins 2 = .ok (.iload_n 2, 1) := by decide +kernel
theorem dX0_begins_3 : decode cX0_begins 3 = .ok (.bipush 6, 2) := by decide +kernel
theorem dX0_begins_5 : decode cX0_begins 5 = .ok (.if_icmp .ge 40, 3) := by decide +kernel
theorem dX0_begins_8 : decode cX0_begins 8 = .ok (.aload_n 0, 1) := by decide +kernel
theorem dX0_begins_9 : decode cX0_begins 9 = .ok (.getfield 11, 3) := by decide +kernel
theorem dX0_begins_12 : decode cX0_begins 12 = .ok (.iload_n 2, 1) := by decide +kernel
theorem dX0_begins_13 : decode cX0_begins 13 = .ok (.aload_n 1, 1) := by decide +kernel
theorem dX0_begins_14 : decode cX0_begins 14 = .ok (.getfield 40, 3) := by decide +kernel
theorem dX0_begins_17 : decode cX0_begins 17 = .ok (.iload_n 2, 1) := by decide +kernel
theorem dX0_begins_18 : decode cX0_begins 18 = .ok (.iaload, 1) := by decide +kernel
theorem dX0_begins_19 : decode cX0_begins 19 = .ok (.iastore, 1) := by decide +kernel
theorem dX0_begins_20 : decode cX0_begins 20 = .ok (.aload_n 0, 1) := by decide +kernel
theorem dX0_begins_21 : decode cX0_begins 21 = .ok (.getfield 15, 3) := by decide +kernel
theorem dX0_begins_24 : decode cX0_begins 24 = .ok (.iload_n 2, 1) := by decide +kernel
theorem dX0_begins_25 : decode cX0_begins 25 = .ok (.iconst 0, 1) := by decide +kernel
theorem dX0_begins_26 : decode cX0_begins 26 = .ok (.iastore, 1) := by decide +kernel
theorem dX0_begins_27 : decode cX0_begins 27 = .ok (.aload_n 0, 1) := by decide +kernel
theorem dX0_begins_28 : decode cX0_begins 28 = .ok (.getfield 18, 3) := by decide +kernel
theorem dX0_begins_31 : decode cX0_begins 31 = .ok (.iload_n 2, 1) := by decide +kernel
theorem dX0_begins_32 : decode cX0_begins 32 = .ok (.aload_n 1, 1) := by decide +kernel
theorem dX0_begins_33 : decode cX0_begins 33 = .ok (.getfield 43, 3) := by decide +kernel
theorem dX0_begins_36 : decode cX0_begins 36 = .ok (.iload_n 2, 1) := by decide +kernel
theorem dX0_begins_37 : decode cX0_begins 37 = .ok (.iaload, 1) := by decide +kernel
theorem dX0_begins_38 : decode cX0_begins 38 = .ok (.iastore, 1) := by decide +kernel
theorem dX0_begins_39 : decode cX0_begins 39 = .ok (.iinc 2 1, 3) := by decide +kernel
theorem dX0_begins_42 : decode cX0_begins 42 = .ok (.goto (-40), 3) := by decide +kernel
theorem dX0_begins_45 : decode cX0_begins 45 = .ok (.aload_n 0, 1) := by decide +kernel
theorem dX0_begins_46 : decode cX0_begins 46 = .ok (.iconst 0, 1) := by decide +kernel
theorem dX0_begins_47 : decode cX0_begins 47 = .ok (.putfield 21, 3) := by decide +kernel
theorem dX0_begins_50 : decode cX0_begins 50 = .ok (.aload_n 0, 1) := by decide +kernel
theorem dX0_begins_51 : decode cX0_begins 51 = .ok (.iconst 0, 1) := by decide +kernel
theorem dX0_begins_52 : decode cX0_begins 52 = .ok (.putfield 25, 3) := by decide +kernel
theorem dX0_begins_55 : decode cX0_begins 55 = .ok (.aload_n 0, 1) := by decide +kernel
theorem dX0_begins_56 : decode cX0_begins 56 = .ok (.iconst 0, 1) := by decide +kernel
theorem dX0_begins_57 : decode cX0_begins 57 = .ok (.putfield 28, 3) := by decide +kernel
theorem dX0_begins_60 : decode cX0_begins 60 = .ok (.aload_n 0, 1) := by decide +kernel
theorem dX0_begins_61 : decode cX0_begins 61 = .ok (.iconst 0, 1) := by decide +kernel
theorem dX0_begins_62 : decode cX0_begins 62 = .ok (.putfield 31, 3) := by decide +kernel
theorem dX0_begins_65 : decode cX0_begins 65 = .ok (.aload_n 0, 1) := by decide +kernel
theorem dX0_begins_66 : decode cX0_begins 66 = .ok (.iconst 0, 1) := by decide +kernel
theorem dX0_begins_67 : decode cX0_begins 67 = .ok (.putfield 37, 3) := by decide +kernel
theorem dX0_begins_70 : decode cX0_begins 70 = .ok (.return_, 1) := by decide +kernel
theorem dX0_loses_0 : decode cX0_loses 0 = .ok (.iload_n 1, 1) := by decide +kernel
theorem dX0_loses_1 : decode cX0_loses 1 = .ok (.ifCond .lt 48, 3) := by decide +kernel
theorem dX0_loses_4 : decode cX0_loses 4 = .ok (.iload_n 1, 1) := by decide +kernel
theorem dX0_loses_5 : decode cX0_loses 5 = .ok (.bipush 6, 2) := by decide +kernel
theorem dX0_loses_7 : decode cX0_loses 7 = .ok (.if_icmp .ge 42, 3) := by decide +kernel
theorem dX0_loses_10 : decode cX0_loses 10 = .ok (.aload_n 0, 1) := by decide +kernel
theorem dX0_loses_11 : decode cX0_loses 11 = .ok (.getfield 11, 3) := by decide +kernel
theorem dX0_loses_14 : decode cX0_loses 14 = .ok (.iload_n 1, 1) := by decide +kernel
theorem dX0_loses_15 : decode cX0_loses 15 = .ok (.iconst 0, 1) := by decide +kernel
theorem dX0_loses_16 : decode cX0_loses 16 = .ok (.aload_n 0, 1) := by decide +kernel
theorem dX0_loses_17 : decode cX0_loses 17 = .ok (.getfield 11, 3) := by decide +kernel
theorem dX0_loses_20 : decode cX0_loses 20 = .ok (.iload_n 1, 1) := by decide +kernel
theorem dX0_loses_21 : decode cX0_loses 21 = .ok (.iaload, 1) := by decide +kernel
theorem dX0_loses_22 : decode cX0_loses 22 = .ok (.iload_n 2, 1) := by decide +kernel
theorem dX0_loses_23 : decode cX0_loses 23 = .ok (.isub, 1) := by decide +kernel
theorem dX0_loses_24 : decode cX0_loses 24 = .ok (.invokestatic 44, 3) := by decide +kernel
theorem dX0_loses_27 : decode cX0_loses 27 = .ok (.iastore, 1) := by decide +kernel
theorem dX0_loses_28 : decode cX0_loses 28 = .ok (.aload_n 0, 1) := by decide +kernel
theorem dX0_loses_29 : decode cX0_loses 29 = .ok (.getfield 15, 3) := by decide +kernel
theorem dX0_loses_32 : decode cX0_loses 32 = .ok (.iload_n 1, 1) := by decide +kernel
theorem dX0_loses_33 : decode cX0_loses 33 = .ok (.aload_n 0, 1) := by decide +kernel
theorem dX0_loses_34 : decode cX0_loses 34 = .ok (.getfield 15, 3) := by decide +kernel
theorem dX0_loses_37 : decode cX0_loses 37 = .ok (.iload_n 1, 1) := by decide +kernel
theorem dX0_loses_38 : decode cX0_loses 38 = .ok (.iaload, 1) := by decide +kernel
theorem dX0_loses_39 : decode cX0_loses 39 = .ok (.aload_n 0, 1) := by decide +kernel
theorem dX0_loses_40 : decode cX0_loses 40 = .ok (.getfield 11, 3) := by decide +kernel
theorem dX0_loses_43 : decode cX0_loses 43 = .ok (.iload_n 1, 1) := by decide +kernel
theorem dX0_loses_44 : decode cX0_loses 44 = .ok (.iaload, 1) := by decide +kernel
theorem dX0_loses_45 : decode cX0_loses 45 = .ok (.invokestatic 50, 3) := by decide +kernel
theorem dX0_loses_48 : decode cX0_loses 48 = .ok (.iastore, 1) := by decide +kernel
theorem dX0_loses_49 : decode cX0_loses 49 = .ok (.return_, 1) := by decide +kernel
theorem dX0_remembers_0 : decode cX0_remembers 0 = .ok (.aload_n 0, 1) := by decide +kernel
theorem dX0_remembers_1 : decode cX0_remembers 1 = .ok (.getfield 37, 3) := by decide +kernel
theorem dX0_remembers_4 : decode cX0_remembers 4 = .ok (.bipush 10, 2) := by decide +kernel
theorem dX0_remembers_6 : decode cX0_remembers 6 = .ok (.if_icmp .lt 30, 3) := by decide +kernel
theorem dX0_remembers_9 : decode cX0_remembers 9 = .ok (.aload_n 0, 1) := by decide +kernel
theorem dX0_remembers_10 : decode cX0_remembers 10 = .ok (.bipush 9, 2) := by decide +kernel
theorem dX0_remembers_12 : decode cX0_remembers 12 = .ok (.putfield 37, 3) := by decide +kernel
theorem dX0_remembers_15 : decode cX0_remembers 15 = .ok (.aload_n 0, 1) := by decide +kernel
theorem dX0_remembers_16 : decode cX0_remembers 16 = .ok (.getfield 34, 3) := by decide +kernel
theorem dX0_remembers_19 : decode cX0_remembers 19 = .ok (.bipush 22, 2) := by decide +kernel
theorem dX0_remembers_21 : decode cX0_remembers 21 = .ok (.aload_n 0, 1) := by decide +kernel
theorem dX0_remembers_22 : decode cX0_remembers 22 = .ok (.getfield 34, 3) := by decide +kernel
theorem dX0_remembers_25 : decode cX0_remembers 25 = .ok (.iconst 0, 1) := by decide +kernel
theorem dX0_remembers_26 : decode cX0_remembers 26 = .ok (.aload_n 0, 1) := by decide +kernel
theorem dX0_remembers_27 : decode cX0_remembers 27 = .ok (.getfield 37, 3) := by decide +kernel
theorem dX0_remembers_30 : decode cX0_remembers 30 = .ok (.bipush 22, 2) := by decide +kernel
theorem dX0_remembers_32 : decode cX0_remembers 32 = .ok (.imul, 1) := by decide +kernel
theorem dX0_remembers_33 : decode cX0_remembers 33 = .ok (.invokestatic 53, 3) := by decide +kernel
theorem dX0_remembers_36 : decode cX0_remembers 36 = .ok (.aload_n 0, 1) := by decide +kernel
theorem dX0_remembers_37 : decode cX0_remembers 37 = .ok (.getfield 37, 3) := by decide +kernel
theorem dX0_remembers_40 : decode cX0_remembers 40 = .ok (.bipush 22, 2) := by decide +kernel
theorem dX0_remembers_42 : decode cX0_remembers 42 = .ok (.imul, 1) := by decide +kernel
theorem dX0_remembers_43 : decode cX0_remembers 43 = .ok (.istore_n 1, 1) := by decide +kernel
theorem dX0_remembers_44 : decode cX0_remembers 44 = .ok (.aload_n 0, 1) := by decide +kernel
theorem dX0_remembers_45 : decode cX0_remembers 45 = .ok (.getfield 11, 3) := by decide +kernel
theorem dX0_remembers_48 : decode cX0_remembers 48 = .ok (.iconst 0, 1) := by decide +kernel
theorem dX0_remembers_49 : decode cX0_remembers 49 = .ok (.aload_n 0, 1) := by decide +kernel
theorem dX0_remembers_50 : decode cX0_remembers 50 = .ok (.getfield 34, 3) := by decide +kernel
theorem dX0_remembers_53 : decode cX0_remembers 53 = .ok (.iload_n 1, 1) := by decide +kernel
theorem dX0_remembers_54 : decode cX0_remembers 54 = .ok (.bipush 6, 2) := by decide +kernel
theorem dX0_remembers_56 : decode cX0_remembers 56 = .ok (.invokestatic 53, 3) := by decide +kernel
theorem dX0_remembers_59 : decode cX0_remembers 59 = .ok (.aload_n 0, 1) := by decide +kernel
theorem dX0_remembers_60 : decode cX0_remembers 60 = .ok (.getfield 15, 3) := by decide +kernel
theorem dX0_remembers_63 : decode cX0_remembers 63 = .ok (.iconst 0, 1) := by decide +kernel
theorem dX0_remembers_64 : decode cX0_remembers 64 = .ok (.aload_n 0, 1) := by decide +kernel
theorem dX0_remembers_65 : decode cX0_remembers 65 = .ok (.getfield 34, 3) := by decide +kernel
theorem dX0_remembers_68 : decode cX0_remembers 68 = .ok (.iload_n 1, 1) := by decide +kernel
theorem dX0_remembers_69 : decode cX0_remembers 69 = .ok (.bipush 6, 2) := by decide +kernel
theorem dX0_remembers_71 : decode cX0_remembers 71 = .ok (.iadd, 1) := by decide +kernel
theorem dX0_remembers_72 : decode cX0_remembers 72 = .ok (.bipush 6, 2) := by decide +kernel
theorem dX0_remembers_74 : decode cX0_remembers 74 = .ok (.invokestatic 53, 3) := by decide +kernel
theorem dX0_remembers_77 : decode cX0_remembers 77 = .ok (.aload_n 0, 1) := by decide +kernel
theorem dX0_remembers_78 : decode cX0_remembers 78 = .ok (.getfield 18, 3) := by decide +kernel
theorem dX0_remembers_81 : decode cX0_remembers 81 = .ok (.iconst 0, 1) := by decide +kernel
theorem dX0_remembers_82 : decode cX0_remembers 82 = .ok (.aload_n 0, 1) := by decide +kernel
theorem dX0_remembers_83 : decode cX0_remembers 83 = .ok (.getfield 34, 3) := by decide +kernel
theorem dX0_remembers_86 : decode cX0_remembers 86 = .ok (.iload_n 1, 1) := by decide +kernel
theorem dX0_remembers_87 : decode cX0_remembers 87 = .ok (.bipush 12, 2) := by decide +kernel
theorem dX0_remembers_89 : decode cX0_remembers 89 = .ok (.iadd, 1) := by decide +kernel
theorem dX0_remembers_90 : decode cX0_remembers 90 = .ok (.bipush 6, 2) := by decide +kernel
theorem dX0_remembers_92 : decode cX0_remembers 92 = .ok (.invokestatic 53, 3) := by decide +kernel
theorem dX0_remembers_95 : decode cX0_remembers 95 = .ok (.aload_n 0, 1) := by decide +kernel
theorem dX0_remembers_96 : decode cX0_remembers 96 = .ok (.getfield 34, 3) := by decide +kernel
theorem dX0_remembers_99 : decode cX0_remembers 99 = .ok (.iload_n 1, 1) := by decide +kernel
theorem dX0_remembers_100 : decode cX0_remembers 100 = .ok (.bipush 18, 2) := by decide +kernel
theorem dX0_remembers_102 : decode cX0_remembers 102 = .ok (.iadd, 1) := by decide +kernel
theorem dX0_remembers_103 : decode cX0_remembers 103 = .ok (.aload_n 0, 1) := by decide +kernel
theorem dX0_remembers_104 : decode cX0_remembers 104 = .ok (.getfield 21, 3) := by decide +kernel
theorem dX0_remembers_107 : decode cX0_remembers 107 = .ok (.iastore, 1) := by decide +kernel
theorem dX0_remembers_108 : decode cX0_remembers 108 = .ok (.aload_n 0, 1) := by decide +kernel
theorem dX0_remembers_109 : decode cX0_remembers 109 = .ok (.getfield 34, 3) := by decide +kernel
theorem dX0_remembers_112 : decode cX0_remembers 112 = .ok (.iload_n 1, 1) := by decide +kernel
theorem dX0_remembers_113 : decode cX0_remembers 113 = .ok (.bipush 18, 2) := by decide +kernel
theorem dX0_remembers_115 : decode cX0_remembers 115 = .ok (.iadd, 1) := by decide +kernel
theorem dX0_remembers_116 : decode cX0_remembers 116 = .ok (.iconst 1, 1) := by decide +kernel
theorem dX0_remembers_117 : decode cX0_remembers 117 = .ok (.iadd, 1) := by decide +kernel
theorem dX0_remembers_118 : decode cX0_remembers 118 = .ok (.aload_n 0, 1) := by decide +kernel
theorem dX0_remembers_119 : decode cX0_remembers 119 = .ok (.getfield 25, 3) := by decide +kernel
theorem dX0_remembers_122 : decode cX0_remembers 122 = .ok (.iastore, 1) := by decide +kernel
theorem dX0_remembers_123 : decode cX0_remembers 123 = .ok (.aload_n 0, 1) := by decide +kernel
theorem dX0_remembers_124 : decode cX0_remembers 124 = .ok (.getfield 34, 3) := by decide +kernel
theorem dX0_remembers_127 : decode cX0_remembers 127 = .ok (.iload_n 1, 1) := by decide +kernel
theorem dX0_remembers_128 : decode cX0_remembers 128 = .ok (.bipush 18, 2) := by decide +kernel
theorem dX0_remembers_130 : decode cX0_remembers 130 = .ok (.iadd, 1) := by decide +kernel
theorem dX0_remembers_131 : decode cX0_remembers 131 = .ok (.iconst 2, 1) := by decide +kernel
theorem dX0_remembers_132 : decode cX0_remembers 132 = .ok (.iadd, 1) := by decide +kernel
theorem dX0_remembers_133 : decode cX0_remembers 133 = .ok (.aload_n 0, 1) := by decide +kernel
theorem dX0_remembers_134 : decode cX0_remembers 134 = .ok (.getfield 28, 3) := by decide +kernel
theorem dX0_remembers_137 : decode cX0_remembers 137 = .ok (.iastore, 1) := by decide +kernel
theorem dX0_remembers_138 : decode cX0_remembers 138 = .ok (.aload_n 0, 1) := by decide +kernel
theorem dX0_remembers_139 : decode cX0_remembers 139 = .ok (.getfield 34, 3) := by decide +kernel
theorem dX0_remembers_142 : decode cX0_remembers 142 = .ok (.iload_n 1, 1) := by decide +kernel
theorem dX0_remembers_143 : decode cX0_remembers 143 = .ok (.bipush 18, 2) := by decide +kernel
theorem dX0_remembers_145 : decode cX0_remembers 145 = .ok (.iadd, 1) := by decide +kernel
theorem dX0_remembers_146 : decode cX0_remembers 146 = .ok (.iconst 3, 1) := by decide +kernel
theorem dX0_remembers_147 : decode cX0_remembers 147 = .ok (.iadd, 1) := by decide +kernel
theorem dX0_remembers_148 : decode cX0_remembers 148 = .ok (.aload_n 0, 1) := by decide +kernel
theorem dX0_remembers_149 : decode cX0_remembers 149 = .ok (.getfield 31, 3) := by decide +kernel
theorem dX0_remembers_152 : decode cX0_remembers 152 = .ok (.iastore, 1) := by decide +kernel
theorem dX0_remembers_153 : decode cX0_remembers 153 = .ok (.aload_n 0, 1) := by decide +kernel
theorem dX0_remembers_154 : decode cX0_remembers 154 = .ok (.dup, 1) := by decide +kernel
theorem dX0_remembers_155 : decode cX0_remembers 155 = .ok (.getfield 37, 3) := by decide +kernel
theorem dX0_remembers_158 : decode cX0_remembers 158 = .ok (.iconst 1, 1) := by decide +kernel
theorem dX0_remembers_159 : decode cX0_remembers 159 = .ok (.iadd, 1) := by decide +kernel
theorem dX0_remembers_160 : decode cX0_remembers 160 = .ok (.putfield 37, 3) := by decide +kernel
theorem dX0_remembers_163 : decode cX0_remembers 163 = .ok (.return_, 1) := by decide +kernel
theorem dX0_stepsBack_0 : decode cX0_stepsBack 0 = .ok (.aload_n 0, 1) := by decide +kernel
theorem dX0_stepsBack_1 : decode cX0_stepsBack 1 = .ok (.getfield 37, 3) := by decide +kernel
theorem dX0_stepsBack_4 : decode cX0_stepsBack 4 = .ok (.ifCond .gt 5, 3) := by decide +kernel
theorem dX0_stepsBack_7 : decode cX0_stepsBack 7 = .ok (.iconst 0, 1) := by decide +kernel
theorem dX0_stepsBack_8 : decode cX0_stepsBack 8 = .ok (.ireturn, 1) := by decide +kernel
theorem dX0_stepsBack_9 : decode cX0_stepsBack 9 = .ok (.aload_n 0, 1) := by decide +kernel
theorem dX0_stepsBack_10 : decode cX0_stepsBack 10 = .ok (.dup, 1) := by decide +kernel
theorem dX0_stepsBack_11 : decode cX0_stepsBack 11 = .ok (.getfield 37, 3) := by decide +kernel
theorem dX0_stepsBack_14 : decode cX0_stepsBack 14 = .ok (.iconst 1, 1) := by decide +kernel
theorem dX0_stepsBack_15 : decode cX0_stepsBack 15 = .ok (.isub, 1) := by decide +kernel
theorem dX0_stepsBack_16 : decode cX0_stepsBack 16 = .ok (.putfield 37, 3) := by decide +kernel
theorem dX0_stepsBack_19 : decode cX0_stepsBack 19 = .ok (.aload_n 0, 1) := by decide +kernel
theorem dX0_stepsBack_20 : decode cX0_stepsBack 20 = .ok (.getfield 37, 3) := by decide +kernel
theorem dX0_stepsBack_23 : decode cX0_stepsBack 23 = .ok (.bipush 22, 2) := by decide +kernel
theorem dX0_stepsBack_25 : decode cX0_stepsBack 25 = .ok (.imul, 1) := by decide +kernel
theorem dX0_stepsBack_26 : decode cX0_stepsBack 26 = .ok (.istore_n 1, 1) := by decide +kernel
theorem dX0_stepsBack_27 : decode cX0_stepsBack 27 = .ok (.aload_n 0, 1) := by decide +kernel
theorem dX0_stepsBack_28 : decode cX0_stepsBack 28 = .ok (.getfield 34, 3) := by decide +kernel
theorem dX0_stepsBack_31 : decode cX0_stepsBack 31 = .ok (.iload_n 1, 1) := by decide +kernel
theorem dX0_stepsBack_32 : decode cX0_stepsBack 32 = .ok (.aload_n 0, 1) := by decide +kernel
theorem dX0_stepsBack_33 : decode cX0_stepsBack 33 = .ok (.getfield 11, 3) := by decide +kernel
theorem dX0_stepsBack_36 : decode cX0_stepsBack 36 = .ok (.iconst 0, 1) := by decide +kernel
theorem dX0_stepsBack_37 : decode cX0_stepsBack 37 = .ok (.bipush 6, 2) := by decide +kernel
theorem dX0_stepsBack_39 : decode cX0_stepsBack 39 = .ok (.invokestatic 53, 3) := by decide +kernel
theorem dX0_stepsBack_42 : decode cX0_stepsBack 42 = .ok (.aload_n 0, 1) := by decide +kernel
theorem dX0_stepsBack_43 : decode cX0_stepsBack 43 = .ok (.getfield 34, 3) := by decide +kernel
theorem dX0_stepsBack_46 : decode cX0_stepsBack 46 = .ok (.iload_n 1, 1) := by decide +kernel
theorem dX0_stepsBack_47 : decode cX0_stepsBack 47 = .ok (.bipush 6, 2) := by decide +kernel
theorem dX0_stepsBack_49 : decode cX0_stepsBack 49 = .ok (.iadd, 1) := by decide +kernel
theorem dX0_stepsBack_50 : decode cX0_stepsBack 50 = .ok (.aload_n 0, 1) := by decide +kernel
theorem dX0_stepsBack_51 : decode cX0_stepsBack 51 = .ok (.getfield 15, 3) := by decide +kernel
theorem dX0_stepsBack_54 : decode cX0_stepsBack 54 = .ok (.iconst 0, 1) := by decide +kernel
theorem dX0_stepsBack_55 : decode cX0_stepsBack 55 = .ok (.bipush 6, 2) := by decide +kernel
theorem dX0_stepsBack_57 : decode cX0_stepsBack 57 = .ok (.invokestatic 53, 3) := by decide +kernel
theorem dX0_stepsBack_60 : decode cX0_stepsBack 60 = .ok (.aload_n 0, 1) := by decide +kernel
theorem dX0_stepsBack_61 : decode cX0_stepsBack 61 = .ok (.getfield 34, 3) := by decide +kernel
theorem dX0_stepsBack_64 : decode cX0_stepsBack 64 = .ok (.iload_n 1, 1) := by decide +kernel
theorem dX0_stepsBack_65 : decode cX0_stepsBack 65 = .ok (.bipush 12, 2) := by decide +kernel
theorem dX0_stepsBack_67 : decode cX0_stepsBack 67 = .ok (.iadd, 1) := by decide +kernel
theorem dX0_stepsBack_68 : decode cX0_stepsBack 68 = .ok (.aload_n 0, 1) := by decide +kernel
theorem dX0_stepsBack_69 : decode cX0_stepsBack 69 = .ok (.getfield 18, 3) := by decide +kernel
theorem dX0_stepsBack_72 : decode cX0_stepsBack 72 = .ok (.iconst 0, 1) := by decide +kernel
theorem dX0_stepsBack_73 : decode cX0_stepsBack 73 = .ok (.bipush 6, 2) := by decide +kernel
theorem dX0_stepsBack_75 : decode cX0_stepsBack 75 = .ok (.invokestatic 53, 3) := by decide +kernel
theorem dX0_stepsBack_78 : decode cX0_stepsBack 78 = .ok (.aload_n 0, 1) := by decide +kernel
theorem dX0_stepsBack_79 : decode cX0_stepsBack 79 = .ok (.aload_n 0, 1) := by decide +kernel
theorem dX0_stepsBack_80 : decode cX0_stepsBack 80 = .ok (.getfield 34, 3) := by decide +kernel
theorem dX0_stepsBack_83 : decode cX0_stepsBack 83 = .ok (.iload_n 1, 1) := by decide +kernel
theorem dX0_stepsBack_84 : decode cX0_stepsBack 84 = .ok (.bipush 18, 2) := by decide +kernel
theorem dX0_stepsBack_86 : decode cX0_stepsBack 86 = .ok (.iadd, 1) := by decide +kernel
theorem dX0_stepsBack_87 : decode cX0_stepsBack 87 = .ok (.iaload, 1) := by decide +kernel
theorem dX0_stepsBack_88 : decode cX0_stepsBack 88 = .ok (.putfield 21, 3) := by decide +kernel
theorem dX0_stepsBack_91 : decode cX0_stepsBack 91 = .ok (.aload_n 0, 1) := by decide +kernel
theorem dX0_stepsBack_92 : decode cX0_stepsBack 92 = .ok (.aload_n 0, 1) := by decide +kernel
theorem dX0_stepsBack_93 : decode cX0_stepsBack 93 = .ok (.getfield 34, 3) := by decide +kernel
theorem dX0_stepsBack_96 : decode cX0_stepsBack 96 = .ok (.iload_n 1, 1) := by decide +kernel
theorem dX0_stepsBack_97 : decode cX0_stepsBack 97 = .ok (.bipush 18, 2) := by decide +kernel
theorem dX0_stepsBack_99 : decode cX0_stepsBack 99 = .ok (.iadd, 1) := by decide +kernel
theorem dX0_stepsBack_100 : decode cX0_stepsBack 100 = .ok (.iconst 1, 1) := by decide +kernel
theorem dX0_stepsBack_101 : decode cX0_stepsBack 101 = .ok (.iadd, 1) := by decide +kernel
theorem dX0_stepsBack_102 : decode cX0_stepsBack 102 = .ok (.iaload, 1) := by decide +kernel
theorem dX0_stepsBack_103 : decode cX0_stepsBack 103 = .ok (.putfield 25, 3) := by decide +kernel
theorem dX0_stepsBack_106 : decode cX0_stepsBack 106 = .ok (.aload_n 0, 1) := by decide +kernel
theorem dX0_stepsBack_107 : decode cX0_stepsBack 107 = .ok (.aload_n 0, 1) := by decide +kernel
theorem dX0_stepsBack_108 : decode cX0_stepsBack 108 = .ok (.getfield 34, 3) := by decide +kernel
theorem dX0_stepsBack_111 : decode cX0_stepsBack 111 = .ok (.iload_n 1, 1) := by decide +kernel
theorem dX0_stepsBack_112 : decode cX0_stepsBack 112 = .ok (.bipush 18, 2) := by decide +kernel
theorem dX0_stepsBack_114 : decode cX0_stepsBack 114 = .ok (.iadd, 1) := by decide +kernel
theorem dX0_stepsBack_115 : decode cX0_stepsBack 115 = .ok (.iconst 2, 1) := by decide +kernel
theorem dX0_stepsBack_116 : decode cX0_stepsBack 116 = .ok (.iadd, 1) := by decide +kernel
theorem dX0_stepsBack_117 : decode cX0_stepsBack 117 = .ok (.iaload, 1) := by decide +kernel
theorem dX0_stepsBack_118 : decode cX0_stepsBack 118 = .ok (.putfield 28, 3) := by decide +kernel
theorem dX0_stepsBack_121 : decode cX0_stepsBack 121 = .ok (.aload_n 0, 1) := by decide +kernel
theorem dX0_stepsBack_122 : decode cX0_stepsBack 122 = .ok (.aload_n 0, 1) := by decide +kernel
theorem dX0_stepsBack_123 : decode cX0_stepsBack 123 = .ok (.getfield 34, 3) := by decide +kernel
theorem dX0_stepsBack_126 : decode cX0_stepsBack 126 = .ok (.iload_n 1, 1) := by decide +kernel
theorem dX0_stepsBack_127 : decode cX0_stepsBack 127 = .ok (.bipush 18, 2) := by decide +kernel
theorem dX0_stepsBack_129 : decode cX0_stepsBack 129 = .ok (.iadd, 1) := by decide +kernel
theorem dX0_stepsBack_130 : decode cX0_stepsBack 130 = .ok (.iconst 3, 1) := by decide +kernel
theorem dX0_stepsBack_131 : decode cX0_stepsBack 131 = .ok (.iadd, 1) := by decide +kernel
theorem dX0_stepsBack_132 : decode cX0_stepsBack 132 = .ok (.iaload, 1) := by decide +kernel
theorem dX0_stepsBack_133 : decode cX0_stepsBack 133 = .ok (.putfield 31, 3) := by decide +kernel
theorem dX0_stepsBack_136 : decode cX0_stepsBack 136 = .ok (.iconst 1, 1) := by decide +kernel
theorem dX0_stepsBack_137 : decode cX0_stepsBack 137 = .ok (.ireturn, 1) := by decide +kernel
theorem dX0_becomes_0 : decode cX0_becomes 0 = .ok (.aload_n 1, 1) := by decide +kernel
theorem dX0_becomes_1 : decode cX0_becomes 1 = .ok (.getfield 11, 3) := by decide +kernel
theorem dX0_becomes_4 : decode cX0_becomes 4 = .ok (.iconst 0, 1) := by decide +kernel
theorem dX0_becomes_5 : decode cX0_becomes 5 = .ok (.aload_n 0, 1) := by decide +kernel
theorem dX0_becomes_6 : decode cX0_becomes 6 = .ok (.getfield 11, 3) := by decide +kernel
theorem dX0_becomes_9 : decode cX0_becomes 9 = .ok (.iconst 0, 1) := by decide +kernel
theorem dX0_becomes_10 : decode cX0_becomes 10 = .ok (.bipush 6, 2) := by decide +kernel
theorem dX0_becomes_12 : decode cX0_becomes 12 = .ok (.invokestatic 53, 3) := by decide +kernel
theorem dX0_becomes_15 : decode cX0_becomes 15 = .ok (.aload_n 1, 1) := by decide +kernel
theorem dX0_becomes_16 : decode cX0_becomes 16 = .ok (.getfield 15, 3) := by decide +kernel
theorem dX0_becomes_19 : decode cX0_becomes 19 = .ok (.iconst 0, 1) := by decide +kernel
theorem dX0_becomes_20 : decode cX0_becomes 20 = .ok (.aload_n 0, 1) := by decide +kernel
theorem dX0_becomes_21 : decode cX0_becomes 21 = .ok (.getfield 15, 3) := by decide +kernel
theorem dX0_becomes_24 : decode cX0_becomes 24 = .ok (.iconst 0, 1) := by decide +kernel
theorem dX0_becomes_25 : decode cX0_becomes 25 = .ok (.bipush 6, 2) := by decide +kernel
theorem dX0_becomes_27 : decode cX0_becomes 27 = .ok (.invokestatic 53, 3) := by decide +kernel
theorem dX0_becomes_30 : decode cX0_becomes 30 = .ok (.aload_n 1, 1) := by decide +kernel
theorem dX0_becomes_31 : decode cX0_becomes 31 = .ok (.getfield 18, 3) := by decide +kernel
theorem dX0_becomes_34 : decode cX0_becomes 34 = .ok (.iconst 0, 1) := by decide +kernel
theorem dX0_becomes_35 : decode cX0_becomes 35 = .ok (.aload_n 0, 1) := by decide +kernel
theorem dX0_becomes_36 : decode cX0_becomes 36 = .ok (.getfield 18, 3) := by decide +kernel
theorem dX0_becomes_39 : decode cX0_becomes 39 = .ok (.iconst 0, 1) := by decide +kernel
theorem dX0_becomes_40 : decode cX0_becomes 40 = .ok (.bipush 6, 2) := by decide +kernel
theorem dX0_becomes_42 : decode cX0_becomes 42 = .ok (.invokestatic 53, 3) := by decide +kernel
theorem dX0_becomes_45 : decode cX0_becomes 45 = .ok (.aload_n 0, 1) := by decide +kernel
theorem dX0_becomes_46 : decode cX0_becomes 46 = .ok (.aload_n 1, 1) := by decide +kernel
theorem dX0_becomes_47 : decode cX0_becomes 47 = .ok (.getfield 21, 3) := by decide +kernel
theorem dX0_becomes_50 : decode cX0_becomes 50 = .ok (.putfield 21, 3) := by decide +kernel
theorem dX0_becomes_53 : decode cX0_becomes 53 = .ok (.aload_n 0, 1) := by decide +kernel
theorem dX0_becomes_54 : decode cX0_becomes 54 = .ok (.aload_n 1, 1) := by decide +kernel
theorem dX0_becomes_55 : decode cX0_becomes 55 = .ok (.getfield 25, 3) := by decide +kernel
theorem dX0_becomes_58 : decode cX0_becomes 58 = .ok (.putfield 25, 3) := by decide +kernel
theorem dX0_becomes_61 : decode cX0_becomes 61 = .ok (.aload_n 0, 1) := by decide +kernel
theorem dX0_becomes_62 : decode cX0_becomes 62 = .ok (.aload_n 1, 1) := by decide +kernel
theorem dX0_becomes_63 : decode cX0_becomes 63 = .ok (.getfield 28, 3) := by decide +kernel
theorem dX0_becomes_66 : decode cX0_becomes 66 = .ok (.putfield 28, 3) := by decide +kernel
theorem dX0_becomes_69 : decode cX0_becomes 69 = .ok (.aload_n 0, 1) := by decide +kernel
theorem dX0_becomes_70 : decode cX0_becomes 70 = .ok (.aload_n 1, 1) := by decide +kernel
theorem dX0_becomes_71 : decode cX0_becomes 71 = .ok (.getfield 31, 3) := by decide +kernel
theorem dX0_becomes_74 : decode cX0_becomes 74 = .ok (.putfield 31, 3) := by decide +kernel
theorem dX0_becomes_77 : decode cX0_becomes 77 = .ok (.aload_n 1, 1) := by decide +kernel
theorem dX0_becomes_78 : decode cX0_becomes 78 = .ok (.getfield 34, 3) := by decide +kernel
theorem dX0_becomes_81 : decode cX0_becomes 81 = .ok (.iconst 0, 1) := by decide +kernel
theorem dX0_becomes_82 : decode cX0_becomes 82 = .ok (.aload_n 0, 1) := by decide +kernel
theorem dX0_becomes_83 : decode cX0_becomes 83 = .ok (.getfield 34, 3) := by decide +kernel
theorem dX0_becomes_86 : decode cX0_becomes 86 = .ok (.iconst 0, 1) := by decide +kernel
theorem dX0_becomes_87 : decode cX0_becomes 87 = .ok (.sipush 220, 3) := by decide +kernel
theorem dX0_becomes_90 : decode cX0_becomes 90 = .ok (.invokestatic 53, 3) := by decide +kernel
theorem dX0_becomes_93 : decode cX0_becomes 93 = .ok (.aload_n 0, 1) := by decide +kernel
theorem dX0_becomes_94 : decode cX0_becomes 94 = .ok (.aload_n 1, 1) := by decide +kernel
theorem dX0_becomes_95 : decode cX0_becomes 95 = .ok (.getfield 37, 3) := by decide +kernel
theorem dX0_becomes_98 : decode cX0_becomes 98 = .ok (.putfield 37, 3) := by decide +kernel
theorem dX0_becomes_101 : decode cX0_becomes 101 = .ok (.return_, 1) := by decide +kernel
theorem dX1_init_0 : decode cX1_init 0 = .ok (.aload_n 0, 1) := by decide +kernel
theorem dX1_init_1 : decode cX1_init 1 = .ok (.invokespecial 3, 3) := by decide +kernel
theorem dX1_init_4 : decode cX1_init 4 = .ok (.aload_n 0, 1) := by decide +kernel
theorem dX1_init_5 : decode cX1_init 5 = .ok (.iconst 0, 1) := by decide +kernel
theorem dX1_init_6 : decode cX1_init 6 = .ok (.putfield 9, 3) := by decide +kernel
theorem dX1_init_9 : decode cX1_init 9 = .ok (.aload_n 0, 1) := by decide +kernel
theorem dX1_init_10 : decode cX1_init 10 = .ok (.bipush 6, 2) := by decide +kernel
theorem dX1_init_12 : decode cX1_init 12 = .ok (.newarray .int, 2) := by decide +kernel
theorem dX1_init_14 : decode cX1_init 14 = .ok (.putfield 15, 3) := by decide +kernel
theorem dX1_init_17 : decode cX1_init 17 = .ok (.aload_n 0, 1) := by decide +kernel
theorem dX1_init_18 : decode cX1_init 18 = .ok (.bipush 6, 2) := by decide +kernel
theorem dX1_init_20 : decode cX1_init 20 = .ok (.newarray .int, 2) := by decide +kernel
theorem dX1_init_22 : decode cX1_init 22 = .ok (.putfield 19, 3) := by decide +kernel
theorem dX1_init_25 : decode cX1_init 25 = .ok (.aload_n 0, 1) := by decide +kernel
theorem dX1_init_26 : decode cX1_init 26 = .ok (.bipush 6, 2) := by decide +kernel
theorem dX1_init_28 : decode cX1_init 28 = .ok (.newarray .int, 2) := by decide +kernel
theorem dX1_init_30 : decode cX1_init 30 = .ok (.putfield 22, 3) := by decide +kernel
theorem dX1_init_33 : decode cX1_init 33 = .ok (.aload_n 0, 1) := by decide +kernel
theorem dX1_init_34 : decode cX1_init 34 = .ok (.iconst 0, 1) := by decide +kernel
theorem dX1_init_35 : decode cX1_init 35 = .ok (.putfield 25, 3) := by decide +kernel
theorem dX1_init_38 : decode cX1_init 38 = .ok (.aload_n 0, 1) := by decide +kernel
theorem dX1_init_39 : decode cX1_init 39 = .ok (.iconst 5, 1) := by decide +kernel
theorem dX1_init_40 : decode cX1_init 40 = .ok (.newarray .int, 2) := by decide +kernel
theorem dX1_init_42 : decode cX1_init 42 = .ok (.putfield 28, 3) := by decide +kernel
theorem dX1_init_45 : decode cX1_init 45 = .ok (.aload_n 0, 1) := by decide +kernel
theorem dX1_init_46 : decode cX1_init 46 = .ok (.iconst 5, 1) := by decide +kernel
theorem dX1_init_47 : decode cX1_init 47 = .ok (.bipush 6, 2) := by decide +kernel
theorem dX1_init_49 : decode cX1_init 49 = .ok (.multianewarray 31 2, 4) := by decide +kernel
theorem dX1_init_53 : decode cX1_init 53 = .ok (.putfield 33, 3) := by decide +kernel
theorem dX1_init_56 : decode cX1_init 56 = .ok (.return_, 1) := by decide +kernel
theorem dX1_empties_0 : decode cX1_empties 0 = .ok (.aload_n 0, 1) := by decide +kernel
theorem dX1_empties_1 : decode cX1_empties 1 = .ok (.iconst 0, 1) := by decide +kernel
theorem dX1_empties_2 : decode cX1_empties 2 = .ok (.putfield 9, 3) := by decide +kernel
theorem dX1_empties_5 : decode cX1_empties 5 = .ok (.aload_n 0, 1) := by decide +kernel
theorem dX1_empties_6 : decode cX1_empties 6 = .ok (.iconst 0, 1) := by decide +kernel
theorem dX1_empties_7 : decode cX1_empties 7 = .ok (.putfield 25, 3) := by decide +kernel
theorem dX1_empties_10 : decode cX1_empties 10 = .ok (.return_, 1) := by decide +kernel
theorem dX1_addsDecanter_0 : decode cX1_addsDecanter 0 = .ok (.aload_n 0, 1) := by decide +kernel
theorem dX1_addsDecanter_1 : decode cX1_addsDecanter 1 = .ok (.getfield 9, 3) := by decide +kernel
theorem dX1_addsDecanter_4 : decode cX1_addsDecanter 4 = .ok (.bipush 6, 2) := by decide +kernel
theorem dX1_addsDecanter_6 : decode cX1_addsDecanter 6 = .ok (.if_icmp .ge 46, 3) := by decide +kernel
theorem dX1_addsDecanter_9 : decode cX1_addsDecanter 9 = .ok (.aload_n 0, 1) := by decide +kernel
theorem dX1_addsDecanter_10 : decode cX1_addsDecanter 10 = .ok (.getfield 15, 3) := by decide +kernel
theorem dX1_addsDecanter_13 : decode cX1_addsDecanter 13 = .ok (.aload_n 0, 1) := by decide +kernel
theorem dX1_addsDecanter_14 : decode cX1_addsDecanter 14 = .ok (.getfield 9, 3) := by decide +kernel
theorem dX1_addsDecanter_17 : decode cX1_addsDecanter 17 = .ok (.iload_n 1, 1) := by decide +kernel
theorem dX1_addsDecanter_18 : decode cX1_addsDecanter 18 = .ok (.iastore, 1) := by decide +kernel
theorem dX1_addsDecanter_19 : decode cX1_addsDecanter 19 = .ok (.aload_n 0, 1) := by decide +kernel
theorem dX1_addsDecanter_20 : decode cX1_addsDecanter 20 = .ok (.getfield 19, 3) := by decide +kernel
theorem dX1_addsDecanter_23 : decode cX1_addsDecanter 23 = .ok (.aload_n 0, 1) := by decide +kernel
theorem dX1_addsDecanter_24 : decode cX1_addsDecanter 24 = .ok (.getfield 9, 3) := by decide +kernel
theorem dX1_addsDecanter_27 : decode cX1_addsDecanter 27 = .ok (.iload_n 2, 1) := by decide +kernel
theorem dX1_addsDecanter_28 : decode cX1_addsDecanter 28 = .ok (.iastore, 1) := by decide +kernel
theorem dX1_addsDecanter_29 : decode cX1_addsDecanter 29 = .ok (.aload_n 0, 1) := by decide +kernel
theorem dX1_addsDecanter_30 : decode cX1_addsDecanter 30 = .ok (.getfield 22, 3) := by decide +kernel
theorem dX1_addsDecanter_33 : decode cX1_addsDecanter 33 = .ok (.aload_n 0, 1) := by decide +kernel
theorem dX1_addsDecanter_34 : decode cX1_addsDecanter 34 = .ok (.getfield 9, 3) := by decide +kernel
theorem dX1_addsDecanter_37 : decode cX1_addsDecanter 37 = .ok (.aload_n 0, 1) := by decide +kernel
theorem dX1_addsDecanter_38 : decode cX1_addsDecanter 38 = .ok (.getfield 9, 3) := by decide +kernel
theorem dX1_addsDecanter_41 : decode cX1_addsDecanter 41 = .ok (.iastore, 1) := by decide +kernel
theorem dX1_addsDecanter_42 : decode cX1_addsDecanter 42 = .ok (.aload_n 0, 1) := by decide +kernel
theorem dX1_addsDecanter_43 : decode cX1_addsDecanter 43 = .ok (.dup, 1) := by decide +kernel
theorem dX1_addsDecanter_44 : decode cX1_addsDecanter 44 = .ok (.getfield 9, 3) := by decide +kernel
theorem dX1_addsDecanter_47 : decode cX1_addsDecanter 47 = .ok (.iconst 1, 1) := by decide +kernel
theorem dX1_addsDecanter_48 : decode cX1_addsDecanter 48 = .ok (.iadd, 1) := by decide +kernel
theorem dX1_addsDecanter_49 : decode cX1_addsDecanter 49 = .ok (.putfield 9, 3) := by decide +kernel
theorem dX1_addsDecanter_52 : decode cX1_addsDecanter 52 = .ok (.return_, 1) := by decide +kernel
theorem dX1_addsAct_0 : decode cX1_addsAct 0 = .ok (.aload_n 0, 1) := by decide +kernel
theorem dX1_addsAct_1 : decode cX1_addsAct 1 = .ok (.getfield 25, 3) := by decide +kernel
theorem dX1_addsAct_4 : decode cX1_addsAct 4 = .ok (.iconst 5, 1) := by decide +kernel
theorem dX1_addsAct_5 : decode cX1_addsAct 5 = .ok (.if_icmp .ge 49, 3) := by decide +kernel
theorem dX1_addsAct_8 : decode cX1_addsAct 8 = .ok (.aload_n 0, 1) := by decide +kernel
theorem dX1_addsAct_9 : decode cX1_addsAct 9 = .ok (.getfield 28, 3) := by decide +kernel
theorem dX1_addsAct_12 : decode cX1_addsAct 12 = .ok (.aload_n 0, 1) := by decide +kernel
theorem dX1_addsAct_13 : decode cX1_addsAct 13 = .ok (.getfield 25, 3) := by decide +kernel
theorem dX1_addsAct_16 : decode cX1_addsAct 16 = .ok (.iload_n 1, 1) := by decide +kernel
theorem dX1_addsAct_17 : decode cX1_addsAct 17 = .ok (.iastore, 1) := by decide +kernel
theorem dX1_addsAct_18 : decode cX1_addsAct 18 = .ok (.iconst 0, 1) := by decide +kernel
theorem dX1_addsAct_19 : decode cX1_addsAct 19 = .ok (.istore_n 2, 1) := by decide +kernel
theorem dX1_addsAct_20 : decode cX1_addsAct 20 = .ok (.iload_n 2, 1) := by decide +kernel
theorem dX1_addsAct_21 : decode cX1_addsAct 21 = .ok (.bipush 6, 2) := by decide +kernel
theorem dX1_addsAct_23 : decode cX1_addsAct 23 = .ok (.if_icmp .ge 21, 3) := by decide +kernel
theorem dX1_addsAct_26 : decode cX1_addsAct 26 = .ok (.aload_n 0, 1) := by decide +kernel
theorem dX1_addsAct_27 : decode cX1_addsAct 27 = .ok (.getfield 33, 3) := by decide +kernel
theorem dX1_addsAct_30 : decode cX1_addsAct 30 = .ok (.aload_n 0, 1) := by decide +kernel
theorem dX1_addsAct_31 : decode cX1_addsAct 31 = .ok (.getfield 25, 3) := by decide +kernel
theorem dX1_addsAct_34 : decode cX1_addsAct 34 = .ok (.aaload, 1) := by decide +kernel
theorem dX1_addsAct_35 : decode cX1_addsAct 35 = .ok (.iload_n 2, 1) := by decide +kernel
theorem dX1_addsAct_36 : decode cX1_addsAct 36 = .ok (.iconst 0, 1) := by decide +kernel
theorem dX1_addsAct_37 : decode cX1_addsAct 37 = .ok (.iastore, 1) := by decide +kernel
theorem dX1_addsAct_38 : decode cX1_addsAct 38 = .ok (.iinc 2 1, 3) := by decide +kernel
theorem dX1_addsAct_41 : decode cX1_addsAct 41 = .ok (.goto (-21), 3) := by decide +kernel
theorem dX1_addsAct_44 : decode cX1_addsAct 44 = .ok (.aload_n 0, 1) := by decide +kernel
theorem dX1_addsAct_45 : decode cX1_addsAct 45 = .ok (.dup, 1) := by decide +kernel
theorem dX1_addsAct_46 : decode cX1_addsAct 46 = .ok (.getfield 25, 3) := by decide +kernel
theorem dX1_addsAct_49 : decode cX1_addsAct 49 = .ok (.iconst 1, 1) := by decide +kernel
theorem dX1_addsAct_50 : decode cX1_addsAct 50 = .ok (.iadd, 1) := by decide +kernel
theorem dX1_addsAct_51 : decode cX1_addsAct 51 = .ok (.putfield 25, 3) := by decide +kernel
theorem dX1_addsAct_54 : decode cX1_addsAct 54 = .ok (.return_, 1) := by decide +kernel
theorem dX1_latestActNeeds_0 : decode cX1_latestActNeeds 0 = .ok (.aload_n 0, 1) := by decide +kernel
theorem dX1_latestActNeeds_1 : decode cX1_latestActNeeds 1 = .ok (.getfield 25, 3) := by decide +kernel
theorem dX1_latestActNeeds_4 : decode cX1_latestActNeeds 4 = .ok (.ifCond .le 29, 3) := by decide +kernel
theorem dX1_latestActNeeds_7 : decode cX1_latestActNeeds 7 = .ok (.iload_n 1, 1) := by decide +kernel
theorem dX1_latestActNeeds_8 : decode cX1_latestActNeeds 8 = .ok (.ifCond .lt 25, 3) := by decide +kernel
theorem dX1_latestActNeeds_11 : decode cX1_latestActNeeds 11 = .ok (.iload_n 1, 1) := by decide +kernel
theorem dX1_latestActNeeds_12 : decode cX1_latestActNeeds 12 = .ok (.aload_n 0, 1) := by decide +kernel
theorem dX1_latestActNeeds_13 : decode cX1_latestActNeeds 13 = .ok (.getfield 9, 3) := by decide +kernel
theorem dX1_latestActNeeds_16 : decode cX1_latestActNeeds 16 = .ok (.if_icmp .ge 17, 3) := by decide +kernel
theorem dX1_latestActNeeds_19 : decode cX1_latestActNeeds 19 = .ok (.aload_n 0, 1) := by decide +kernel
theorem dX1_latestActNeeds_20 : decode cX1_latestActNeeds 20 = .ok (.getfield 33, 3) := by decide +kernel
theorem dX1_latestActNeeds_23 : decode cX1_latestActNeeds 23 = .ok (.aload_n 0, 1) := by decide +kernel
theorem dX1_latestActNeeds_24 : decode cX1_latestActNeeds 24 = .ok (.getfield 25, 3) := by decide +kernel
theorem dX1_latestActNeeds_27 : decode cX1_latestActNeeds 27 = .ok (.iconst 1, 1) := by decide +kernel
theorem dX1_latestActNeeds_28 : decode cX1_latestActNeeds 28 = .ok (.isub, 1) := by decide +kernel
theorem dX1_latestActNeeds_29 : decode cX1_latestActNeeds 29 = .ok (.aaload, 1) := by decide +kernel
theorem dX1_latestActNeeds_30 : decode cX1_latestActNeeds 30 = .ok (.iload_n 1, 1) := by decide +kernel
theorem dX1_latestActNeeds_31 : decode cX1_latestActNeeds 31 = .ok (.iload_n 2, 1) := by decide +kernel
theorem dX1_latestActNeeds_32 : decode cX1_latestActNeeds 32 = .ok (.iastore, 1) := by decide +kernel
theorem dX1_latestActNeeds_33 : decode cX1_latestActNeeds 33 = .ok (.return_, 1) := by decide +kernel
theorem dX1_exchangesLabels_0 : decode cX1_exchangesLabels 0 = .ok (.iload_n 1, 1) := by decide +kernel
theorem dX1_exchangesLabels_1 : decode cX1_exchangesLabels 1 = .ok (.ifCond .lt 49, 3) := by decide +kernel
theorem dX1_exchangesLabels_4 : decode cX1_exchangesLabels 4 = .ok (.iload_n 1, 1) := by decide +kernel
theorem dX1_exchangesLabels_5 : decode cX1_exchangesLabels 5 = .ok (.aload_n 0, 1) := by decide +kernel
theorem dX1_exchangesLabels_6 : decode cX1_exchangesLabels 6 = .ok (.getfield 9, 3) := by decide +kernel
theorem dX1_exchangesLabels_9 : decode cX1_exchangesLabels 9 = .ok (.if_icmp .ge 41, 3) := by decide +kernel
theorem dX1_exchangesLabels_12 : decode cX1_exchangesLabels 12 = .ok (.iload_n 2, 1) := by decide +kernel
theorem dX1_exchangesLabels_13 : decode cX1_exchangesLabels 13 = .ok (.ifCond .lt 37, 3) := by decide +kernel
theorem dX1_exchangesLabels_16 : decode cX1_exchangesLabels 16 = .ok (.iload_n 2, 1) := by decide +kernel
theorem dX1_exchangesLabels_17 : decode cX1_exchangesLabels 17 = .ok (.aload_n 0, 1) := by decide +kernel
theorem dX1_exchangesLabels_18 : decode cX1_exchangesLabels 18 = .ok (.getfield 9, 3) := by decide +kernel
theorem dX1_exchangesLabels_21 : decode cX1_exchangesLabels 21 = .ok (.if_icmp .ge 29, 3) := by decide +kernel
theorem dX1_exchangesLabels_24 : decode cX1_exchangesLabels 24 = .ok (.aload_n 0, 1) := by decide +kernel
theorem dX1_exchangesLabels_25 : decode cX1_exchangesLabels 25 = .ok (.getfield 22, 3) := by decide +kernel
theorem dX1_exchangesLabels_28 : decode cX1_exchangesLabels 28 = .ok (.iload_n 1, 1) := by decide +kernel
theorem dX1_exchangesLabels_29 : decode cX1_exchangesLabels 29 = .ok (.iaload, 1) := by decide +kernel
theorem dX1_exchangesLabels_30 : decode cX1_exchangesLabels 30 = .ok (.istore_n 3, 1) := by decide +kernel
theorem dX1_exchangesLabels_31 : decode cX1_exchangesLabels 31 = .ok (.aload_n 0, 1) := by decide +kernel
theorem dX1_exchangesLabels_32 : decode cX1_exchangesLabels 32 = .ok (.getfield 22, 3) := by decide +kernel
theorem dX1_exchangesLabels_35 : decode cX1_exchangesLabels 35 = .ok (.iload_n 1, 1) := by decide +kernel
theorem dX1_exchangesLabels_36 : decode cX1_exchangesLabels 36 = .ok (.aload_n 0, 1) := by decide +kernel
theorem dX1_exchangesLabels_37 : decode cX1_exchangesLabels 37 = .ok (.getfield 22, 3) := by decide +kernel
theorem dX1_exchangesLabels_40 : decode cX1_exchangesLabels 40 = .ok (.iload_n 2, 1) := by decide +kernel
theorem dX1_exchangesLabels_41 : decode cX1_exchangesLabels 41 = .ok (.iaload, 1) := by decide +kernel
theorem dX1_exchangesLabels_42 : decode cX1_exchangesLabels 42 = .ok (.iastore, 1) := by decide +kernel
theorem dX1_exchangesLabels_43 : decode cX1_exchangesLabels 43 = .ok (.aload_n 0, 1) := by decide +kernel
theorem dX1_exchangesLabels_44 : decode cX1_exchangesLabels 44 = .ok (.getfield 22, 3) := by decide +kernel
theorem dX1_exchangesLabels_47 : decode cX1_exchangesLabels 47 = .ok (.iload_n 2, 1) := by decide +kernel
theorem dX1_exchangesLabels_48 : decode cX1_exchangesLabels 48 = .ok (.iload_n 3, 1) := by decide +kernel
theorem dX1_exchangesLabels_49 : decode cX1_exchangesLabels 49 = .ok (.iastore, 1) := by decide +kernel
theorem dX1_exchangesLabels_50 : decode cX1_exchangesLabels 50 = .ok (.return_, 1) := by decide +kernel
theorem dX1_dropsNeeded_0 : decode cX1_dropsNeeded 0 = .ok (.iload_n 1, 1) := by decide +kernel
theorem dX1_dropsNeeded_1 : decode cX1_dropsNeeded 1 = .ok (.ifCond .lt 34, 3) := by decide +kernel
theorem dX1_dropsNeeded_4 : decode cX1_dropsNeeded 4 = .ok (.iload_n 1, 1) := by decide +kernel
theorem dX1_dropsNeeded_5 : decode cX1_dropsNeeded 5 = .ok (.aload_n 0, 1) := by decide +kernel
theorem dX1_dropsNeeded_6 : decode cX1_dropsNeeded 6 = .ok (.getfield 25, 3) := by decide +kernel
theorem dX1_dropsNeeded_9 : decode cX1_dropsNeeded 9 = .ok (.if_icmp .ge 26, 3) := by decide +kernel
theorem dX1_dropsNeeded_12 : decode cX1_dropsNeeded 12 = .ok (.iload_n 2, 1) := by decide +kernel
theorem dX1_dropsNeeded_13 : decode cX1_dropsNeeded 13 = .ok (.ifCond .lt 22, 3) := by decide +kernel
theorem dX1_dropsNeeded_16 : decode cX1_dropsNeeded 16 = .ok (.iload_n 2, 1) := by decide +kernel
theorem dX1_dropsNeeded_17 : decode cX1_dropsNeeded 17 = .ok (.aload_n 0, 1) := by decide +kernel
theorem dX1_dropsNeeded_18 : decode cX1_dropsNeeded 18 = .ok (.getfield 9, 3) := by decide +kernel
theorem dX1_dropsNeeded_21 : decode cX1_dropsNeeded 21 = .ok (.if_icmp .ge 14, 3) := by decide +kernel
theorem dX1_dropsNeeded_24 : decode cX1_dropsNeeded 24 = .ok (.aload_n 0, 1) := by decide +kernel
theorem dX1_dropsNeeded_25 : decode cX1_dropsNeeded 25 = .ok (.getfield 33, 3) := by decide +kernel
theorem dX1_dropsNeeded_28 : decode cX1_dropsNeeded 28 = .ok (.iload_n 1, 1) := by decide +kernel
theorem dX1_dropsNeeded_29 : decode cX1_dropsNeeded 29 = .ok (.aaload, 1) := by decide +kernel
theorem dX1_dropsNeeded_30 : decode cX1_dropsNeeded 30 = .ok (.iload_n 2, 1) := by decide +kernel
theorem dX1_dropsNeeded_31 : decode cX1_dropsNeeded 31 = .ok (.iaload, 1) := by decide +kernel
theorem dX1_dropsNeeded_32 : decode cX1_dropsNeeded 32 = .ok (.goto 4, 3) := by decide +kernel
theorem dX1_dropsNeeded_35 : decode cX1_dropsNeeded 35 = .ok (.iconst 0, 1) := by decide +kernel
theorem dX1_dropsNeeded_36 : decode cX1_dropsNeeded 36 = .ok (.ireturn, 1) := by decide +kernel
theorem dX1_qualitiesNeeded_0 : decode cX1_qualitiesNeeded 0 = .ok (.iconst 0, 1) := by decide +kernel
theorem dX1_qualitiesNeeded_1 : decode cX1_qualitiesNeeded 1 = .ok (.istore_n 2, 1) := by decide +kernel
theorem dX1_qualitiesNeeded_2 : decode cX1_qualitiesNeeded 2 = .ok (.iconst 0, 1) := by decide +kernel
theorem dX1_qualitiesNeeded_3 : decode cX1_qualitiesNeeded 3 = .ok (.istore_n 3, 1) := by decide +kernel
theorem dX1_qualitiesNeeded_4 : decode cX1_qualitiesNeeded 4 = .ok (.iload_n 3, 1) := by decide +kernel
theorem dX1_qualitiesNeeded_5 : decode cX1_qualitiesNeeded 5 = .ok (.aload_n 0, 1) := by decide +kernel
theorem dX1_qualitiesNeeded_6 : decode cX1_qualitiesNeeded 6 = .ok (.getfield 9, 3) := by decide +kernel
theorem dX1_qualitiesNeeded_9 : decode cX1_qualitiesNeeded 9 = .ok (.if_icmp .ge 24, 3) := by decide +kernel
theorem dX1_qualitiesNeeded_12 : decode cX1_qualitiesNeeded 12 = .ok (.aload_n 0, 1) := by decide +kernel
theorem dX1_qualitiesNeeded_13 : decode cX1_qualitiesNeeded 13 = .ok (.iload_n 1, 1) := by decide +kernel
theorem dX1_qualitiesNeeded_14 : decode cX1_qualitiesNeeded 14 = .ok (.iload_n 3, 1) := by decide +kernel
theorem dX1_qualitiesNeeded_15 : decode cX1_qualitiesNeeded 15 = .ok (.invokevirtual 36, 3) := by decide +kernel
theorem dX1_qualitiesNeeded_18 : decode cX1_qualitiesNeeded 18 = .ok (.ifCond .le 9, 3) := by decide +kernel
theorem dX1_qualitiesNeeded_21 : decode cX1_qualitiesNeeded 21 = .ok (.iload_n 2, 1) := by decide +kernel
theorem dX1_qualitiesNeeded_22 : decode cX1_qualitiesNeeded 22 = .ok (.iconst 1, 1) := by decide +kernel
theorem dX1_qualitiesNeeded_23 : decode cX1_qualitiesNeeded 23 = .ok (.iload_n 3, 1) := by decide +kernel
theorem dX1_qualitiesNeeded_24 : decode cX1_qualitiesNeeded 24 = .ok (.ishl, 1) := by decide +kernel
theorem dX1_qualitiesNeeded_25 : decode cX1_qualitiesNeeded 25 = .ok (.ior, 1) := by decide +kernel
theorem dX1_qualitiesNeeded_26 : decode cX1_qualitiesNeeded 26 = .ok (.istore_n 2, 1) := by decide +kernel
theorem dX1_qualitiesNeeded_27 : decode cX1_qualitiesNeeded 27 = .ok (.iinc 3 1, 3) := by decide +kernel
theorem dX1_qualitiesNeeded_30 : decode cX1_qualitiesNeeded 30 = .ok (.goto (-26), 3) := by decide +kernel
theorem dX1_qualitiesNeeded_33 : decode cX1_qualitiesNeeded 33 = .ok (.iload_n 2, 1) := by decide +kernel
theorem dX1_qualitiesNeeded_34 : decode cX1_qualitiesNeeded 34 = .ok (.ireturn, 1) := by decide +kernel
theorem dX1_worthOf_0 : decode cX1_worthOf 0 = .ok (.iconst 0, 1) := by decide +kernel
theorem dX1_worthOf_1 : decode cX1_worthOf 1 = .ok (.istore_n 2, 1) := by decide +kernel
theorem dX1_worthOf_2 : decode cX1_worthOf 2 = .ok (.iconst 0, 1) := by decide +kernel
theorem dX1_worthOf_3 : decode cX1_worthOf 3 = .ok (.istore_n 3, 1) := by decide +kernel
theorem dX1_worthOf_4 : decode cX1_worthOf 4 = .ok (.iload_n 3, 1) := by decide +kernel
theorem dX1_worthOf_5 : decode cX1_worthOf 5 = .ok (.aload_n 0, 1) := by decide +kernel
theorem dX1_worthOf_6 : decode cX1_worthOf 6 = .ok (.getfield 25, 3) := by decide +kernel
theorem dX1_worthOf_9 : decode cX1_worthOf 9 = .ok (.if_icmp .ge 26, 3) := by decide +kernel
theorem dX1_worthOf_12 : decode cX1_worthOf 12 = .ok (.iload_n 1, 1) := by decide +kernel
theorem dX1_worthOf_13 : decode cX1_worthOf 13 = .ok (.iload_n 3, 1) := by decide +kernel
theorem dX1_worthOf_14 : decode cX1_worthOf 14 = .ok (.invokestatic 40, 3) := by decide +kernel
theorem dX1_worthOf_17 : decode cX1_worthOf 17 = .ok (.ifCond .eq 12, 3) := by decide +kernel
theorem dX1_worthOf_20 : decode cX1_worthOf 20 = .ok (.iload_n 2, 1) := by decide +kernel
theorem dX1_worthOf_21 : decode cX1_worthOf 21 = .ok (.aload_n 0, 1) := by decide +kernel
theorem dX1_worthOf_22 : decode cX1_worthOf 22 = .ok (.getfield 28, 3) := by decide +kernel
theorem dX1_worthOf_25 : decode cX1_worthOf 25 = .ok (.iload_n 3, 1) := by decide +kernel
theorem dX1_worthOf_26 : decode cX1_worthOf 26 = .ok (.iaload, 1) := by decide +kernel
theorem dX1_worthOf_27 : decode cX1_worthOf 27 = .ok (.iadd, 1) := by decide +kernel
theorem dX1_worthOf_28 : decode cX1_worthOf 28 = .ok (.istore_n 2, 1) := by decide +kernel
theorem dX1_worthOf_29 : decode cX1_worthOf 29 = .ok (.iinc 3 1, 3) := by decide +kernel
theorem dX1_worthOf_32 : decode cX1_worthOf 32 = .ok (.goto (-28), 3) := by decide +kernel
theorem dX1_worthOf_35 : decode cX1_worthOf 35 = .ok (.iload_n 2, 1) := by decide +kernel
theorem dX1_worthOf_36 : decode cX1_worthOf 36 = .ok (.ireturn, 1) := by decide +kernel
theorem dX2_init_0 : decode cX2_init 0 = .ok (.aload_n 0, 1) := by decide +kernel
theorem dX2_init_1 : decode cX2_init 1 = .ok (.invokespecial 3, 3) := by decide +kernel
theorem dX2_init_4 : decode cX2_init 4 = .ok (.aload_n 0, 1) := by decide +kernel
theorem dX2_init_5 : decode cX2_init 5 = .ok (.sipush 150, 3) := by decide +kernel
theorem dX2_init_8 : decode cX2_init 8 = .ok (.newarray .int, 2) := by decide +kernel
theorem dX2_init_10 : decode cX2_init 10 = .ok (.putfield 9, 3) := by decide +kernel
theorem dX2_init_13 : decode cX2_init 13 = .ok (.aload_n 0, 1) := by decide +kernel
theorem dX2_init_14 : decode cX2_init 14 = .ok (.iconst 0, 1) := by decide +kernel
theorem dX2_init_15 : decode cX2_init 15 = .ok (.putfield 15, 3) := by decide +kernel
theorem dX2_init_18 : decode cX2_init 18 = .ok (.aload_n 0, 1) := by decide +kernel
theorem dX2_init_19 : decode cX2_init 19 = .ok (.iconst 0, 1) := by decide +kernel
theorem dX2_init_20 : decode cX2_init 20 = .ok (.putfield 19, 3) := by decide +kernel
theorem dX2_init_23 : decode cX2_init 23 = .ok (.aload_n 0, 1) := by decide +kernel
theorem dX2_init_24 : decode cX2_init 24 = .ok (.iconst 0, 1) := by decide +kernel
theorem dX2_init_25 : decode cX2_init 25 = .ok (.putfield 22, 3) := by decide +kernel
theorem dX2_init_28 : decode cX2_init 28 = .ok (.aload_n 0, 1) := by decide +kernel
theorem dX2_init_29 : decode cX2_init 29 = .ok (.iconst 0, 1) := by decide +kernel
theorem dX2_init_30 : decode cX2_init 30 = .ok (.putfield 25, 3) := by decide +kernel
theorem dX2_init_33 : decode cX2_init 33 = .ok (.aload_n 0, 1) := by decide +kernel
theorem dX2_init_34 : decode cX2_init 34 = .ok (.iconst 0, 1) := by decide +kernel
theorem dX2_init_35 : decode cX2_init 35 = .ok (.putfield 28, 3) := by decide +kernel
theorem dX2_init_38 : decode cX2_init 38 = .ok (.return_, 1) := by decide +kernel
theorem dX2_takes_0 : decode cX2_takes 0 = .ok (.aload_n 0, 1) := by decide +kernel
theorem dX2_takes_1 : decode cX2_takes 1 = .ok (.getfield 15, 3) := by decide +kernel
theorem dX2_takes_4 : decode cX2_takes 4 = .ok (.ifCond .lt 13, 3) := by decide +kernel
theorem dX2_takes_7 : decode cX2_takes 7 = .ok (.aload_n 0, 1) := by decide +kernel
theorem dX2_takes_8 : decode cX2_takes 8 = .ok (.getfield 15, 3) := by decide +kernel
theorem dX2_takes_11 : decode cX2_takes 11 = .ok (.sipush 150, 3) := by decide +kernel
theorem dX2_takes_14 : decode cX2_takes 14 = .ok (.if_icmp .lt 5, 3) := by decide +kernel
theorem dX2_takes_17 : decode cX2_takes 17 = .ok (.iconst 0, 1) := by decide +kernel
theorem dX2_takes_18 : decode cX2_takes 18 = .ok (.ireturn, 1) := by decide +kernel
theorem dX2_takes_19 : decode cX2_takes 19 = .ok (.aload_n 0, 1) := by decide +kernel
theorem dX2_takes_20 : decode cX2_takes 20 = .ok (.getfield 9, 3) := by decide +kernel
theorem dX2_takes_23 : decode cX2_takes 23 = .ok (.aload_n 0, 1) := by decide +kernel
theorem dX2_takes_24 : decode cX2_takes 24 = .ok (.getfield 15, 3) := by decide +kernel
theorem dX2_takes_27 : decode cX2_takes 27 = .ok (.iload_n 1, 1) := by decide +kernel
theorem dX2_takes_28 : decode cX2_takes 28 = .ok (.iastore, 1) := by decide +kernel
theorem dX2_takes_29 : decode cX2_takes 29 = .ok (.aload_n 0, 1) := by decide +kernel
theorem dX2_takes_30 : decode cX2_takes 30 = .ok (.dup, 1) := by decide +kernel
theorem dX2_takes_31 : decode cX2_takes 31 = .ok (.getfield 15, 3) := by decide +kernel
theorem dX2_takes_34 : decode cX2_takes 34 = .ok (.iconst 1, 1) := by decide +kernel
theorem dX2_takes_35 : decode cX2_takes 35 = .ok (.iadd, 1) := by decide +kernel
theorem dX2_takes_36 : decode cX2_takes 36 = .ok (.putfield 15, 3) := by decide +kernel
theorem dX2_takes_39 : decode cX2_takes 39 = .ok (.iconst 1, 1) := by decide +kernel
theorem dX2_takes_40 : decode cX2_takes 40 = .ok (.ireturn, 1) := by decide +kernel
theorem dX2_readsInto_0 : decode cX2_readsInto 0 = .ok (.aload_n 0, 1) := by decide +kernel
theorem dX2_readsInto_1 : decode cX2_readsInto 1 = .ok (.iconst 0, 1) := by decide +kernel
theorem dX2_readsInto_2 : decode cX2_readsInto 2 = .ok (.putfield 19, 3) := by decide +kernel
theorem dX2_readsInto_5 : decode cX2_readsInto 5 = .ok (.iconst 0, 1) := by decide +kernel
theorem dX2_readsInto_6 : decode cX2_readsInto 6 = .ok (.istore_n 2, 1) := by decide +kernel
theorem dX2_readsInto_7 : decode cX2_readsInto 7 = .ok (.aload_n 0, 1) := by decide +kernel
theorem dX2_readsInto_8 : decode cX2_readsInto 8 = .ok (.invokevirtual 31, 3) := by decide +kernel
theorem dX2_readsInto_11 : decode cX2_readsInto 11 = .ok (.aload_n 0, 1) := by decide +kernel
theorem dX2_readsInto_12 : decode cX2_readsInto 12 = .ok (.getfield 22, 3) := by decide +kernel
theorem dX2_readsInto_15 : decode cX2_readsInto 15 = .ok (.ifCond .eq 36, 3) := by decide +kernel
theorem dX2_readsInto_18 : decode cX2_readsInto 18 = .ok (.iload_n 2, 1) := by decide +kernel
theorem dX2_readsInto_19 : decode cX2_readsInto 19 = .ok (.sipush 150, 3) := by decide +kernel
theorem dX2_readsInto_22 : decode cX2_readsInto 22 = .ok (.if_icmp .ge 29, 3) := by decide +kernel
theorem dX2_readsInto_25 : decode cX2_readsInto 25 = .ok (.aload_n 0, 1) := by decide +kernel
theorem dX2_readsInto_26 : decode cX2_readsInto 26 = .ok (.aload_n 1, 1) := by decide +kernel
theorem dX2_readsInto_27 : decode cX2_readsInto 27 = .ok (.invokevirtual 34, 3) := by decide +kernel
theorem dX2_readsInto_30 : decode cX2_readsInto 30 = .ok (.ifCond .ne 11, 3) := by decide +kernel
theorem dX2_readsInto_33 : decode cX2_readsInto 33 = .ok (.bipush (-10), 2) := by decide +kernel
theorem dX2_readsInto_35 : decode cX2_readsInto 35 = .ok (.aload_n 0, 1) := by decide +kernel
theorem dX2_readsInto_36 : decode cX2_readsInto 36 = .ok (.getfield 25, 3) := by decide +kernel
theorem dX2_readsInto_39 : decode cX2_readsInto 39 = .ok (.isub, 1) := by decide +kernel
theorem dX2_readsInto_40 : decode cX2_readsInto 40 = .ok (.ireturn, 1) := by decide +kernel
theorem dX2_readsInto_41 : decode cX2_readsInto 41 = .ok (.iinc 2 1, 3) := by decide +kernel
theorem dX2_readsInto_44 : decode cX2_readsInto 44 = .ok (.aload_n 0, 1) := by decide +kernel
theorem dX2_readsInto_45 : decode cX2_readsInto 45 = .ok (.invokevirtual 31, 3) := by decide +kernel
theorem dX2_readsInto_48 : decode cX2_readsInto 48 = .ok (.goto (-37), 3) := by decide +kernel
theorem dX2_readsInto_51 : decode cX2_readsInto 51 = .ok (.iload_n 2, 1) := by decide +kernel
theorem dX2_readsInto_52 : decode cX2_readsInto 52 = .ok (.ireturn, 1) := by decide +kernel
theorem dX2_readsItem_0 : decode cX2_readsItem 0 = .ok (.aload_n 0, 1) := by decide +kernel
theorem dX2_readsItem_1 : decode cX2_readsItem 1 = .ok (.getfield 22, 3) := by decide +kernel
theorem dX2_readsItem_4 : decode cX2_readsItem 4 = .ok (.iconst 1, 1) := by decide +kernel
theorem dX2_readsItem_5 : decode cX2_readsItem 5 = .ok (.if_icmp .eq 5, 3) := by decide +kernel
theorem dX2_readsItem_8 : decode cX2_readsItem 8 = .ok (.iconst 0, 1) := by decide +kernel
theorem dX2_readsItem_9 : decode cX2_readsItem 9 = .ok (.ireturn, 1) := by decide +kernel
theorem dX2_readsItem_10 : decode cX2_readsItem 10 = .ok (.aload_n 0, 1) := by decide +kernel
theorem dX2_readsItem_11 : decode cX2_readsItem 11 = .ok (.getfield 28, 3) := by decide +kernel
theorem dX2_readsItem_14 : decode cX2_readsItem 14 = .ok (.lookupswitch 85 #[(97, 57), (100, 34), (120, 79)], 34) := by decide +kernel
theorem dX2_readsItem_48 : decode cX2_readsItem 48 = .ok (.aload_n 1, 1) := by decide +kernel
theorem dX2_readsItem_49 : decode cX2_readsItem 49 = .ok (.getfield 38, 3) := by decide +kernel
theorem dX2_readsItem_52 : decode cX2_readsItem 52 = .ok (.bipush 6, 2) := by decide +kernel
theorem dX2_readsItem_54 : decode cX2_readsItem 54 = .ok (.if_icmp .ge 15, 3) := by decide +kernel
theorem dX2_readsItem_57 : decode cX2_readsItem 57 = .ok (.aload_n 0, 1) := by decide +kernel
theorem dX2_readsItem_58 : decode cX2_readsItem 58 = .ok (.aload_n 1, 1) := by decide +kernel
theorem dX2_readsItem_59 : decode cX2_readsItem 59 = .ok (.invokevirtual 43, 3) := by decide +kernel
theorem dX2_readsItem_62 : decode cX2_readsItem 62 = .ok (.ifCond .eq 7, 3) := by decide +kernel
theorem dX2_readsItem_65 : decode cX2_readsItem 65 = .ok (.iconst 1, 1) := by decide +kernel
theorem dX2_readsItem_66 : decode cX2_readsItem 66 = .ok (.goto 4, 3) := by decide +kernel
theorem dX2_readsItem_69 : decode cX2_readsItem 69 = .ok (.iconst 0, 1) := by decide +kernel
theorem dX2_readsItem_70 : decode cX2_readsItem 70 = .ok (.ireturn, 1) := by decide +kernel
theorem dX2_readsItem_71 : decode cX2_readsItem 71 = .ok (.aload_n 1, 1) := by decide +kernel
theorem dX2_readsItem_72 : decode cX2_readsItem 72 = .ok (.getfield 46, 3) := by decide +kernel
theorem dX2_readsItem_75 : decode cX2_readsItem 75 = .ok (.iconst 5, 1) := by decide +kernel
theorem dX2_readsItem_76 : decode cX2_readsItem 76 = .ok (.if_icmp .ge 15, 3) := by decide +kernel
theorem dX2_readsItem_79 : decode cX2_readsItem 79 = .ok (.aload_n 0, 1) := by decide +kernel
theorem dX2_readsItem_80 : decode cX2_readsItem 80 = .ok (.aload_n 1, 1) := by decide +kernel
theorem dX2_readsItem_81 : decode cX2_readsItem 81 = .ok (.invokevirtual 49, 3) := by decide +kernel
theorem dX2_readsItem_84 : decode cX2_readsItem 84 = .ok (.ifCond .eq 7, 3) := by decide +kernel
theorem dX2_readsItem_87 : decode cX2_readsItem 87 = .ok (.iconst 1, 1) := by decide +kernel
theorem dX2_readsItem_88 : decode cX2_readsItem 88 = .ok (.goto 4, 3) := by decide +kernel
theorem dX2_readsItem_91 : decode cX2_readsItem 91 = .ok (.iconst 0, 1) := by decide +kernel
theorem dX2_readsItem_92 : decode cX2_readsItem 92 = .ok (.ireturn, 1) := by decide +kernel
theorem dX2_readsItem_93 : decode cX2_readsItem 93 = .ok (.aload_n 0, 1) := by decide +kernel
theorem dX2_readsItem_94 : decode cX2_readsItem 94 = .ok (.aload_n 1, 1) := by decide +kernel
theorem dX2_readsItem_95 : decode cX2_readsItem 95 = .ok (.invokevirtual 52, 3) := by decide +kernel
theorem dX2_readsItem_98 : decode cX2_readsItem 98 = .ok (.ireturn, 1) := by decide +kernel
theorem dX2_readsItem_99 : decode cX2_readsItem 99 = .ok (.iconst 0, 1) := by decide +kernel
theorem dX2_readsItem_100 : decode cX2_readsItem 100 = .ok (.ireturn, 1) := by decide +kernel
theorem dX2_readsDecanter_0 : decode cX2_readsDecanter 0 = .ok (.aload_n 0, 1) := by decide +kernel
theorem dX2_readsDecanter_1 : decode cX2_readsDecanter 1 = .ok (.bipush 40, 2) := by decide +kernel
theorem dX2_readsDecanter_3 : decode cX2_readsDecanter 3 = .ok (.invokevirtual 55, 3) := by decide +kernel
theorem dX2_readsDecanter_6 : decode cX2_readsDecanter 6 = .ok (.ifCond .ne 5, 3) := by decide +kernel
theorem dX2_readsDecanter_9 : decode cX2_readsDecanter 9 = .ok (.iconst 0, 1) := by decide +kernel
theorem dX2_readsDecanter_10 : decode cX2_readsDecanter 10 = .ok (.ireturn, 1) := by decide +kernel
theorem dX2_readsDecanter_11 : decode cX2_readsDecanter 11 = .ok (.aload_n 0, 1) := by decide +kernel
theorem dX2_readsDecanter_12 : decode cX2_readsDecanter 12 = .ok (.getfield 28, 3) := by decide +kernel
theorem dX2_readsDecanter_15 : decode cX2_readsDecanter 15 = .ok (.istore_n 2, 1) := by decide +kernel
theorem dX2_readsDecanter_16 : decode cX2_readsDecanter 16 = .ok (.aload_n 0, 1) := by decide +kernel
theorem dX2_readsDecanter_17 : decode cX2_readsDecanter 17 = .ok (.iconst 5, 1) := by decide +kernel
theorem dX2_readsDecanter_18 : decode cX2_readsDecanter 18 = .ok (.invokevirtual 55, 3) := by decide +kernel
theorem dX2_readsDecanter_21 : decode cX2_readsDecanter 21 = .ok (.ifCond .ne 5, 3) := by decide +kernel
theorem dX2_readsDecanter_24 : decode cX2_readsDecanter 24 = .ok (.iconst 0, 1) := by decide +kernel
theorem dX2_readsDecanter_25 : decode cX2_readsDecanter 25 = .ok (.ireturn, 1) := by decide +kernel
theorem dX2_readsDecanter_26 : decode cX2_readsDecanter 26 = .ok (.aload_n 1, 1) := by decide +kernel
theorem dX2_readsDecanter_27 : decode cX2_readsDecanter 27 = .ok (.iload_n 2, 1) := by decide +kernel
theorem dX2_readsDecanter_28 : decode cX2_readsDecanter 28 = .ok (.aload_n 0, 1) := by decide +kernel
theorem dX2_readsDecanter_29 : decode cX2_readsDecanter 29 = .ok (.getfield 28, 3) := by decide +kernel
theorem dX2_readsDecanter_32 : decode cX2_readsDecanter 32 = .ok (.invokevirtual 59, 3) := by decide +kernel
theorem dX2_readsDecanter_35 : decode cX2_readsDecanter 35 = .ok (.aload_n 0, 1) := by decide +kernel
theorem dX2_readsDecanter_36 : decode cX2_readsDecanter 36 = .ok (.invokevirtual 63, 3) := by decide +kernel
theorem dX2_readsDecanter_39 : decode cX2_readsDecanter 39 = .ok (.ireturn, 1) := by decide +kernel
theorem dX2_readsAct_0 : decode cX2_readsAct 0 = .ok (.aload_n 0, 1) := by decide +kernel
theorem dX2_readsAct_1 : decode cX2_readsAct 1 = .ok (.bipush 99, 2) := by decide +kernel
theorem dX2_readsAct_3 : decode cX2_readsAct 3 = .ok (.invokevirtual 55, 3) := by decide +kernel
theorem dX2_readsAct_6 : decode cX2_readsAct 6 = .ok (.ifCond .ne 5, 3) := by decide +kernel
theorem dX2_readsAct_9 : decode cX2_readsAct 9 = .ok (.iconst 0, 1) := by decide +kernel
theorem dX2_readsAct_10 : decode cX2_readsAct 10 = .ok (.ireturn, 1) := by decide +kernel
theorem dX2_readsAct_11 : decode cX2_readsAct 11 = .ok (.aload_n 1, 1) := by decide +kernel
theorem dX2_readsAct_12 : decode cX2_readsAct 12 = .ok (.aload_n 0, 1) := by decide +kernel
theorem dX2_readsAct_13 : decode cX2_readsAct 13 = .ok (.getfield 28, 3) := by decide +kernel
theorem dX2_readsAct_16 : decode cX2_readsAct 16 = .ok (.invokevirtual 67, 3) := by decide +kernel
theorem dX2_readsAct_19 : decode cX2_readsAct 19 = .ok (.aload_n 0, 1) := by decide +kernel
theorem dX2_readsAct_20 : decode cX2_readsAct 20 = .ok (.invokevirtual 31, 3) := by decide +kernel
theorem dX2_readsAct_23 : decode cX2_readsAct 23 = .ok (.iconst 0, 1) := by decide +kernel
theorem dX2_readsAct_24 : decode cX2_readsAct 24 = .ok (.istore_n 2, 1) := by decide +kernel
theorem dX2_readsAct_25 : decode cX2_readsAct 25 = .ok (.iload_n 2, 1) := by decide +kernel
theorem dX2_readsAct_26 : decode cX2_readsAct 26 = .ok (.bipush 6, 2) := by decide +kernel
theorem dX2_readsAct_28 : decode cX2_readsAct 28 = .ok (.if_icmp .ge 54, 3) := by decide +kernel
theorem dX2_readsAct_31 : decode cX2_readsAct 31 = .ok (.aload_n 0, 1) := by decide +kernel
theorem dX2_readsAct_32 : decode cX2_readsAct 32 = .ok (.getfield 22, 3) := by decide +kernel
theorem dX2_readsAct_35 : decode cX2_readsAct 35 = .ok (.iconst 2, 1) := by decide +kernel
theorem dX2_readsAct_36 : decode cX2_readsAct 36 = .ok (.if_icmp .ne 46, 3) := by decide +kernel
theorem dX2_readsAct_39 : decode cX2_readsAct 39 = .ok (.aload_n 0, 1) := by decide +kernel
theorem dX2_readsAct_40 : decode cX2_readsAct 40 = .ok (.getfield 28, 3) := by decide +kernel
theorem dX2_readsAct_43 : decode cX2_readsAct 43 = .ok (.istore_n 3, 1) := by decide +kernel
theorem dX2_readsAct_44 : decode cX2_readsAct 44 = .ok (.iload_n 3, 1) := by decide +kernel
theorem dX2_readsAct_45 : decode cX2_readsAct 45 = .ok (.aload_n 1, 1) := by decide +kernel
theorem dX2_readsAct_46 : decode cX2_readsAct 46 = .ok (.getfield 38, 3) := by decide +kernel
theorem dX2_readsAct_49 : decode cX2_readsAct 49 = .ok (.if_icmp .ge 12, 3) := by decide +kernel
theorem dX2_readsAct_52 : decode cX2_readsAct 52 = .ok (.aload_n 0, 1) := by decide +kernel
theorem dX2_readsAct_53 : decode cX2_readsAct 53 = .ok (.bipush 9, 2) := by decide +kernel
theorem dX2_readsAct_55 : decode cX2_readsAct 55 = .ok (.invokevirtual 55, 3) := by decide +kernel
theorem dX2_readsAct_58 : decode cX2_readsAct 58 = .ok (.ifCond .ne 5, 3) := by decide +kernel
theorem dX2_readsAct_61 : decode cX2_readsAct 61 = .ok (.iconst 0, 1) := by decide +kernel
theorem dX2_readsAct_62 : decode cX2_readsAct 62 = .ok (.ireturn, 1) := by decide +kernel
theorem dX2_readsAct_63 : decode cX2_readsAct 63 = .ok (.aload_n 1, 1) := by decide +kernel
theorem dX2_readsAct_64 : decode cX2_readsAct 64 = .ok (.iload_n 3, 1) := by decide +kernel
theorem dX2_readsAct_65 : decode cX2_readsAct 65 = .ok (.aload_n 0, 1) := by decide +kernel
theorem dX2_readsAct_66 : decode cX2_readsAct 66 = .ok (.getfield 28, 3) := by decide +kernel
theorem dX2_readsAct_69 : decode cX2_readsAct 69 = .ok (.invokevirtual 71, 3) := by decide +kernel
theorem dX2_readsAct_72 : decode cX2_readsAct 72 = .ok (.aload_n 0, 1) := by decide +kernel
theorem dX2_readsAct_73 : decode cX2_readsAct 73 = .ok (.invokevirtual 31, 3) := by decide +kernel
theorem dX2_readsAct_76 : decode cX2_readsAct 76 = .ok (.iinc 2 1, 3) := by decide +kernel
theorem dX2_readsAct_79 : decode cX2_readsAct 79 = .ok (.goto (-54), 3) := by decide +kernel
theorem dX2_readsAct_82 : decode cX2_readsAct 82 = .ok (.aload_n 0, 1) := by decide +kernel
theorem dX2_readsAct_83 : decode cX2_readsAct 83 = .ok (.getfield 22, 3) := by decide +kernel
theorem dX2_readsAct_86 : decode cX2_readsAct 86 = .ok (.iconst 3, 1) := by decide +kernel
theorem dX2_readsAct_87 : decode cX2_readsAct 87 = .ok (.if_icmp .ne 7, 3) := by decide +kernel
theorem dX2_readsAct_90 : decode cX2_readsAct 90 = .ok (.iconst 1, 1) := by decide +kernel
theorem dX2_readsAct_91 : decode cX2_readsAct 91 = .ok (.goto 4, 3) := by decide +kernel
theorem dX2_readsAct_94 : decode cX2_readsAct 94 = .ok (.iconst 0, 1) := by decide +kernel
theorem dX2_readsAct_95 : decode cX2_readsAct 95 = .ok (.ireturn, 1) := by decide +kernel
theorem dX2_readsExchange_0 : decode cX2_readsExchange 0 = .ok (.aload_n 0, 1) := by decide +kernel
theorem dX2_readsExchange_1 : decode cX2_readsExchange 1 = .ok (.aload_n 1, 1) := by decide +kernel
theorem dX2_readsExchange_2 : decode cX2_readsExchange 2 = .ok (.getfield 38, 3) := by decide +kernel
theorem dX2_readsExchange_5 : decode cX2_readsExchange 5 = .ok (.iconst 1, 1) := by decide +kernel
theorem dX2_readsExchange_6 : decode cX2_readsExchange 6 = .ok (.isub, 1) := by decide +kernel
theorem dX2_readsExchange_7 : decode cX2_readsExchange 7 = .ok (.invokevirtual 55, 3) := by decide +kernel
theorem dX2_readsExchange_10 : decode cX2_readsExchange 10 = .ok (.ifCond .ne 5, 3) := by decide +kernel
theorem dX2_readsExchange_13 : decode cX2_readsExchange 13 = .ok (.iconst 0, 1) := by decide +kernel
theorem dX2_readsExchange_14 : decode cX2_readsExchange 14 = .ok (.ireturn, 1) := by decide +kernel
theorem dX2_readsExchange_15 : decode cX2_readsExchange 15 = .ok (.aload_n 0, 1) := by decide +kernel
theorem dX2_readsExchange_16 : decode cX2_readsExchange 16 = .ok (.getfield 28, 3) := by decide +kernel
theorem dX2_readsExchange_19 : decode cX2_readsExchange 19 = .ok (.istore_n 2, 1) := by decide +kernel
theorem dX2_readsExchange_20 : decode cX2_readsExchange 20 = .ok (.aload_n 0, 1) := by decide +kernel
theorem dX2_readsExchange_21 : decode cX2_readsExchange 21 = .ok (.aload_n 1, 1) := by decide +kernel
theorem dX2_readsExchange_22 : decode cX2_readsExchange 22 = .ok (.getfield 38, 3) := by decide +kernel
theorem dX2_readsExchange_25 : decode cX2_readsExchange 25 = .ok (.iconst 1, 1) := by decide +kernel
theorem dX2_readsExchange_26 : decode cX2_readsExchange 26 = .ok (.isub, 1) := by decide +kernel
theorem dX2_readsExchange_27 : decode cX2_readsExchange 27 = .ok (.invokevirtual 55, 3) := by decide +kernel
theorem dX2_readsExchange_30 : decode cX2_readsExchange 30 = .ok (.ifCond .eq 11, 3) := by decide +kernel
theorem dX2_readsExchange_33 : decode cX2_readsExchange 33 = .ok (.aload_n 0, 1) := by decide +kernel
theorem dX2_readsExchange_34 : decode cX2_readsExchange 34 = .ok (.getfield 28, 3) := by decide +kernel
theorem dX2_readsExchange_37 : decode cX2_readsExchange 37 = .ok (.iload_n 2, 1) := by decide +kernel
theorem dX2_readsExchange_38 : decode cX2_readsExchange 38 = .ok (.if_icmp .ne 5, 3) := by decide +kernel
theorem dX2_readsExchange_41 : decode cX2_readsExchange 41 = .ok (.iconst 0, 1) := by decide +kernel
theorem dX2_readsExchange_42 : decode cX2_readsExchange 42 = .ok (.ireturn, 1) := by decide +kernel
theorem dX2_readsExchange_43 : decode cX2_readsExchange 43 = .ok (.aload_n 1, 1) := by decide +kernel
theorem dX2_readsExchange_44 : decode cX2_readsExchange 44 = .ok (.iload_n 2, 1) := by decide +kernel
theorem dX2_readsExchange_45 : decode cX2_readsExchange 45 = .ok (.aload_n 0, 1) := by decide +kernel
theorem dX2_readsExchange_46 : decode cX2_readsExchange 46 = .ok (.getfield 28, 3) := by decide +kernel
theorem dX2_readsExchange_49 : decode cX2_readsExchange 49 = .ok (.invokevirtual 74, 3) := by decide +kernel
theorem dX2_readsExchange_52 : decode cX2_readsExchange 52 = .ok (.aload_n 0, 1) := by decide +kernel
theorem dX2_readsExchange_53 : decode cX2_readsExchange 53 = .ok (.invokevirtual 63, 3) := by decide +kernel
theorem dX2_readsExchange_56 : decode cX2_readsExchange 56 = .ok (.ireturn, 1) := by decide +kernel
theorem dX2_readsNumber_0 : decode cX2_readsNumber 0 = .ok (.aload_n 0, 1) := by decide +kernel
theorem dX2_readsNumber_1 : decode cX2_readsNumber 1 = .ok (.invokevirtual 31, 3) := by decide +kernel
theorem dX2_readsNumber_4 : decode cX2_readsNumber 4 = .ok (.aload_n 0, 1) := by decide +kernel
theorem dX2_readsNumber_5 : decode cX2_readsNumber 5 = .ok (.getfield 22, 3) := by decide +kernel
theorem dX2_readsNumber_8 : decode cX2_readsNumber 8 = .ok (.iconst 2, 1) := by decide +kernel
theorem dX2_readsNumber_9 : decode cX2_readsNumber 9 = .ok (.if_icmp .ne 15, 3) := by decide +kernel
theorem dX2_readsNumber_12 : decode cX2_readsNumber 12 = .ok (.aload_n 0, 1) := by decide +kernel
theorem dX2_readsNumber_13 : decode cX2_readsNumber 13 = .ok (.getfield 28, 3) := by decide +kernel
theorem dX2_readsNumber_16 : decode cX2_readsNumber 16 = .ok (.iload_n 1, 1) := by decide +kernel
theorem dX2_readsNumber_17 : decode cX2_readsNumber 17 = .ok (.if_icmp .gt 7, 3) := by decide +kernel
theorem dX2_readsNumber_20 : decode cX2_readsNumber 20 = .ok (.iconst 1, 1) := by decide +kernel
theorem dX2_readsNumber_21 : decode cX2_readsNumber 21 = .ok (.goto 4, 3) := by decide +kernel
theorem dX2_readsNumber_24 : decode cX2_readsNumber 24 = .ok (.iconst 0, 1) := by decide +kernel
theorem dX2_readsNumber_25 : decode cX2_readsNumber 25 = .ok (.ireturn, 1) := by decide +kernel
theorem dX2_readsStop_0 : decode cX2_readsStop 0 = .ok (.aload_n 0, 1) := by decide +kernel
theorem dX2_readsStop_1 : decode cX2_readsStop 1 = .ok (.invokevirtual 31, 3) := by decide +kernel
theorem dX2_readsStop_4 : decode cX2_readsStop 4 = .ok (.aload_n 0, 1) := by decide +kernel
theorem dX2_readsStop_5 : decode cX2_readsStop 5 = .ok (.getfield 22, 3) := by decide +kernel
theorem dX2_readsStop_8 : decode cX2_readsStop 8 = .ok (.iconst 3, 1) := by decide +kernel
theorem dX2_readsStop_9 : decode cX2_readsStop 9 = .ok (.if_icmp .ne 7, 3) := by decide +kernel
theorem dX2_readsStop_12 : decode cX2_readsStop 12 = .ok (.iconst 1, 1) := by decide +kernel
theorem dX2_readsStop_13 : decode cX2_readsStop 13 = .ok (.goto 4, 3) := by decide +kernel
theorem dX2_readsStop_16 : decode cX2_readsStop 16 = .ok (.iconst 0, 1) := by decide +kernel
theorem dX2_readsStop_17 : decode cX2_readsStop 17 = .ok (.ireturn, 1) := by decide +kernel
theorem dX2_advances_0 : decode cX2_advances 0 = .ok (.aload_n 0, 1) := by decide +kernel
theorem dX2_advances_1 : decode cX2_advances 1 = .ok (.getfield 19, 3) := by decide +kernel
theorem dX2_advances_4 : decode cX2_advances 4 = .ok (.aload_n 0, 1) := by decide +kernel
theorem dX2_advances_5 : decode cX2_advances 5 = .ok (.getfield 15, 3) := by decide +kernel
theorem dX2_advances_8 : decode cX2_advances 8 = .ok (.if_icmp .ge 29, 3) := by decide +kernel
theorem dX2_advances_11 : decode cX2_advances 11 = .ok (.aload_n 0, 1) := by decide +kernel
theorem dX2_advances_12 : decode cX2_advances 12 = .ok (.aload_n 0, 1) := by decide +kernel
theorem dX2_advances_13 : decode cX2_advances 13 = .ok (.getfield 19, 3) := by decide +kernel
theorem dX2_advances_16 : decode cX2_advances 16 = .ok (.invokevirtual 77, 3) := by decide +kernel
theorem dX2_advances_19 : decode cX2_advances 19 = .ok (.bipush 32, 2) := by decide +kernel
theorem dX2_advances_21 : decode cX2_advances 21 = .ok (.if_icmp .ne 16, 3) := by decide +kernel
theorem dX2_advances_24 : decode cX2_advances 24 = .ok (.aload_n 0, 1) := by decide +kernel
theorem dX2_advances_25 : decode cX2_advances 25 = .ok (.dup, 1) := by decide +kernel
theorem dX2_advances_26 : decode cX2_advances 26 = .ok (.getfield 19, 3) := by decide +kernel
theorem dX2_advances_29 : decode cX2_advances 29 = .ok (.iconst 1, 1) := by decide +kernel
theorem dX2_advances_30 : decode cX2_advances 30 = .ok (.iadd, 1) := by decide +kernel
theorem dX2_advances_31 : decode cX2_advances 31 = .ok (.putfield 19, 3) := by decide +kernel
theorem dX2_advances_34 : decode cX2_advances 34 = .ok (.goto (-34), 3) := by decide +kernel
theorem dX2_advances_37 : decode cX2_advances 37 = .ok (.aload_n 0, 1) := by decide +kernel
theorem dX2_advances_38 : decode cX2_advances 38 = .ok (.aload_n 0, 1) := by decide +kernel
theorem dX2_advances_39 : decode cX2_advances 39 = .ok (.getfield 19, 3) := by decide +kernel
theorem dX2_advances_42 : decode cX2_advances 42 = .ok (.putfield 25, 3) := by decide +kernel
theorem dX2_advances_45 : decode cX2_advances 45 = .ok (.aload_n 0, 1) := by decide +kernel
theorem dX2_advances_46 : decode cX2_advances 46 = .ok (.aload_n 0, 1) := by decide +kernel
theorem dX2_advances_47 : decode cX2_advances 47 = .ok (.getfield 19, 3) := by decide +kernel
theorem dX2_advances_50 : decode cX2_advances 50 = .ok (.invokevirtual 77, 3) := by decide +kernel
theorem dX2_advances_53 : decode cX2_advances 53 = .ok (.istore_n 1, 1) := by decide +kernel
theorem dX2_advances_54 : decode cX2_advances 54 = .ok (.iload_n 1, 1) := by decide +kernel
theorem dX2_advances_55 : decode cX2_advances 55 = .ok (.istore_n 2, 1) := by decide +kernel
theorem dX2_advances_56 : decode cX2_advances 56 = .ok (.aload_n 0, 1) := by decide +kernel
theorem dX2_advances_57 : decode cX2_advances 57 = .ok (.iload_n 1, 1) := by decide +kernel
theorem dX2_advances_58 : decode cX2_advances 58 = .ok (.invokestatic 81, 3) := by decide +kernel
theorem dX2_advances_61 : decode cX2_advances 61 = .ok (.putfield 22, 3) := by decide +kernel
theorem dX2_advances_64 : decode cX2_advances 64 = .ok (.aload_n 0, 1) := by decide +kernel
theorem dX2_advances_65 : decode cX2_advances 65 = .ok (.getfield 22, 3) := by decide +kernel
theorem dX2_advances_68 : decode cX2_advances 68 = .ok (.iconst 1, 1) := by decide +kernel
theorem dX2_advances_69 : decode cX2_advances 69 = .ok (.if_icmp .eq 11, 3) := by decide +kernel
theorem dX2_advances_72 : decode cX2_advances 72 = .ok (.aload_n 0, 1) := by decide +kernel
theorem dX2_advances_73 : decode cX2_advances 73 = .ok (.getfield 22, 3) := by decide +kernel
theorem dX2_advances_76 : decode cX2_advances 76 = .ok (.iconst 2, 1) := by decide +kernel
theorem dX2_advances_77 : decode cX2_advances 77 = .ok (.if_icmp .ne 7, 3) := by decide +kernel
theorem dX2_advances_80 : decode cX2_advances 80 = .ok (.iconst 1, 1) := by decide +kernel
theorem dX2_advances_81 : decode cX2_advances 81 = .ok (.goto 4, 3) := by decide +kernel
theorem dX2_advances_84 : decode cX2_advances 84 = .ok (.iconst 0, 1) := by decide +kernel
theorem dX2_advances_85 : decode cX2_advances 85 = .ok (.istore_n 3, 1) := by decide +kernel
theorem dX2_advances_86 : decode cX2_advances 86 = .ok (.aload_n 0, 1) := by decide +kernel
theorem dX2_advances_87 : decode cX2_advances 87 = .ok (.getfield 19, 3) := by decide +kernel
theorem dX2_advances_90 : decode cX2_advances 90 = .ok (.aload_n 0, 1) := by decide +kernel
theorem dX2_advances_91 : decode cX2_advances 91 = .ok (.getfield 15, 3) := by decide +kernel
theorem dX2_advances_94 : decode cX2_advances 94 = .ok (.if_icmp .ge 58, 3) := by decide +kernel
theorem dX2_advances_97 : decode cX2_advances 97 = .ok (.aload_n 0, 1) := by decide +kernel
theorem dX2_advances_98 : decode cX2_advances 98 = .ok (.getfield 19, 3) := by decide +kernel
theorem dX2_advances_101 : decode cX2_advances 101 = .ok (.aload_n 0, 1) := by decide +kernel
theorem dX2_advances_102 : decode cX2_advances 102 = .ok (.getfield 25, 3) := by decide +kernel
theorem dX2_advances_105 : decode cX2_advances 105 = .ok (.if_icmp .eq 25, 3) := by decide +kernel
theorem dX2_advances_108 : decode cX2_advances 108 = .ok (.iload_n 3, 1) := by decide +kernel
theorem dX2_advances_109 : decode cX2_advances 109 = .ok (.ifCond .eq 43, 3) := by decide +kernel
theorem dX2_advances_112 : decode cX2_advances 112 = .ok (.aload_n 0, 1) := by decide +kernel
theorem dX2_advances_113 : decode cX2_advances 113 = .ok (.aload_n 0, 1) := by decide +kernel
theorem dX2_advances_114 : decode cX2_advances 114 = .ok (.getfield 19, 3) := by decide +kernel
theorem dX2_advances_117 : decode cX2_advances 117 = .ok (.invokevirtual 77, 3) := by decide +kernel
theorem dX2_advances_120 : decode cX2_advances 120 = .ok (.invokestatic 81, 3) := by decide +kernel
theorem dX2_advances_123 : decode cX2_advances 123 = .ok (.aload_n 0, 1) := by decide +kernel
theorem dX2_advances_124 : decode cX2_advances 124 = .ok (.getfield 22, 3) := by decide +kernel
theorem dX2_advances_127 : decode cX2_advances 127 = .ok (.if_icmp .ne 25, 3) := by decide +kernel
theorem dX2_advances_130 : decode cX2_advances 130 = .ok (.aload_n 0, 1) := by decide +kernel
theorem dX2_advances_131 : decode cX2_advances 131 = .ok (.aload_n 0, 1) := by decide +kernel
theorem dX2_advances_132 : decode cX2_advances 132 = .ok (.getfield 19, 3) := by decide +kernel
theorem dX2_advances_135 : decode cX2_advances 135 = .ok (.invokevirtual 77, 3) := by decide +kernel
theorem dX2_advances_138 : decode cX2_advances 138 = .ok (.istore_n 2, 1) := by decide +kernel
theorem dX2_advances_139 : decode cX2_advances 139 = .ok (.aload_n 0, 1) := by decide +kernel
theorem dX2_advances_140 : decode cX2_advances 140 = .ok (.dup, 1) := by decide +kernel
theorem dX2_advances_141 : decode cX2_advances 141 = .ok (.getfield 19, 3) := by decide +kernel
theorem dX2_advances_144 : decode cX2_advances 144 = .ok (.iconst 1, 1) := by decide +kernel
theorem dX2_advances_145 : decode cX2_advances 145 = .ok (.iadd, 1) := by decide +kernel
theorem dX2_advances_146 : decode cX2_advances 146 = .ok (.putfield 19, 3) := by decide +kernel
theorem dX2_advances_149 : decode cX2_advances 149 = .ok (.goto (-63), 3) := by decide +kernel
theorem dX2_advances_152 : decode cX2_advances 152 = .ok (.aload_n 0, 1) := by decide +kernel
theorem dX2_advances_153 : decode cX2_advances 153 = .ok (.iload_n 1, 1) := by decide +kernel
theorem dX2_advances_154 : decode cX2_advances 154 = .ok (.iload_n 2, 1) := by decide +kernel
theorem dX2_advances_155 : decode cX2_advances 155 = .ok (.aload_n 0, 1) := by decide +kernel
theorem dX2_advances_156 : decode cX2_advances 156 = .ok (.getfield 19, 3) := by decide +kernel
theorem dX2_advances_159 : decode cX2_advances 159 = .ok (.aload_n 0, 1) := by decide +kernel
theorem dX2_advances_160 : decode cX2_advances 160 = .ok (.getfield 25, 3) := by decide +kernel
theorem dX2_advances_163 : decode cX2_advances 163 = .ok (.isub, 1) := by decide +kernel
theorem dX2_advances_164 : decode cX2_advances 164 = .ok (.invokevirtual 84, 3) := by decide +kernel
theorem dX2_advances_167 : decode cX2_advances 167 = .ok (.return_, 1) := by decide +kernel
theorem dX2_setsValue_0 : decode cX2_setsValue 0 = .ok (.aload_n 0, 1) := by decide +kernel
theorem dX2_setsValue_1 : decode cX2_setsValue 1 = .ok (.getfield 22, 3) := by decide +kernel
theorem dX2_setsValue_4 : decode cX2_setsValue 4 = .ok (.iconst 2, 1) := by decide +kernel
theorem dX2_setsValue_5 : decode cX2_setsValue 5 = .ok (.if_icmp .eq 20, 3) := by decide +kernel
theorem dX2_setsValue_8 : decode cX2_setsValue 8 = .ok (.aload_n 0, 1) := by decide +kernel
theorem dX2_setsValue_9 : decode cX2_setsValue 9 = .ok (.iload_n 3, 1) := by decide +kernel
theorem dX2_setsValue_10 : decode cX2_setsValue 10 = .ok (.iconst 1, 1) := by decide +kernel
theorem dX2_setsValue_11 : decode cX2_setsValue 11 = .ok (.if_icmp .ne 7, 3) := by decide +kernel
theorem dX2_setsValue_14 : decode cX2_setsValue 14 = .ok (.iload_n 1, 1) := by decide +kernel
theorem dX2_setsValue_15 : decode cX2_setsValue 15 = .ok (.goto 4, 3) := by decide +kernel
theorem dX2_setsValue_18 : decode cX2_setsValue 18 = .ok (.iconst (-1), 1) := by decide +kernel
theorem dX2_setsValue_19 : decode cX2_setsValue 19 = .ok (.putfield 28, 3) := by decide +kernel
theorem dX2_setsValue_22 : decode cX2_setsValue 22 = .ok (.goto 54, 3) := by decide +kernel
theorem dX2_setsValue_25 : decode cX2_setsValue 25 = .ok (.iload_n 3, 1) := by decide +kernel
theorem dX2_setsValue_26 : decode cX2_setsValue 26 = .ok (.iconst 1, 1) := by decide +kernel
theorem dX2_setsValue_27 : decode cX2_setsValue 27 = .ok (.if_icmp .ne 14, 3) := by decide +kernel
theorem dX2_setsValue_30 : decode cX2_setsValue 30 = .ok (.aload_n 0, 1) := by decide +kernel
theorem dX2_setsValue_31 : decode cX2_setsValue 31 = .ok (.iload_n 1, 1) := by decide +kernel
theorem dX2_setsValue_32 : decode cX2_setsValue 32 = .ok (.bipush 48, 2) := by decide +kernel
theorem dX2_setsValue_34 : decode cX2_setsValue 34 = .ok (.isub, 1) := by decide +kernel
theorem dX2_setsValue_35 : decode cX2_setsValue 35 = .ok (.putfield 28, 3) := by decide +kernel
theorem dX2_setsValue_38 : decode cX2_setsValue 38 = .ok (.goto 38, 3) := by decide +kernel
theorem dX2_setsValue_41 : decode cX2_setsValue 41 = .ok (.iload_n 3, 1) := by decide +kernel
theorem dX2_setsValue_42 : decode cX2_setsValue 42 = .ok (.iconst 2, 1) := by decide +kernel
theorem dX2_setsValue_43 : decode cX2_setsValue 43 = .ok (.if_icmp .ne 28, 3) := by decide +kernel
theorem dX2_setsValue_46 : decode cX2_setsValue 46 = .ok (.iload_n 1, 1) := by decide +kernel
theorem dX2_setsValue_47 : decode cX2_setsValue 47 = .ok (.bipush 48, 2) := by decide +kernel
theorem dX2_setsValue_49 : decode cX2_setsValue 49 = .ok (.if_icmp .eq 22, 3) := by decide +kernel
theorem dX2_setsValue_52 : decode cX2_setsValue 52 = .ok (.aload_n 0, 1) := by decide +kernel
theorem dX2_setsValue_53 : decode cX2_setsValue 53 = .ok (.bipush 10, 2) := by decide +kernel
theorem dX2_setsValue_55 : decode cX2_setsValue 55 = .ok (.iload_n 1, 1) := by decide +kernel
theorem dX2_setsValue_56 : decode cX2_setsValue 56 = .ok (.bipush 48, 2) := by decide +kernel
theorem dX2_setsValue_58 : decode cX2_setsValue 58 = .ok (.isub, 1) := by decide +kernel
theorem dX2_setsValue_59 : decode cX2_setsValue 59 = .ok (.imul, 1) := by decide +kernel
theorem dX2_setsValue_60 : decode cX2_setsValue 60 = .ok (.iload_n 2, 1) := by decide +kernel
theorem dX2_setsValue_61 : decode cX2_setsValue 61 = .ok (.iadd, 1) := by decide +kernel
theorem dX2_setsValue_62 : decode cX2_setsValue 62 = .ok (.bipush 48, 2) := by decide +kernel
theorem dX2_setsValue_64 : decode cX2_setsValue 64 = .ok (.isub, 1) := by decide +kernel
theorem dX2_setsValue_65 : decode cX2_setsValue 65 = .ok (.putfield 28, 3) := by decide +kernel
theorem dX2_setsValue_68 : decode cX2_setsValue 68 = .ok (.goto 8, 3) := by decide +kernel
theorem dX2_setsValue_71 : decode cX2_setsValue 71 = .ok (.aload_n 0, 1) := by decide +kernel
theorem dX2_setsValue_72 : decode cX2_setsValue 72 = .ok (.iconst 4, 1) := by decide +kernel
theorem dX2_setsValue_73 : decode cX2_setsValue 73 = .ok (.putfield 22, 3) := by decide +kernel
theorem dX2_setsValue_76 : decode cX2_setsValue 76 = .ok (.return_, 1) := by decide +kernel
theorem dX2_byteAt_0 : decode cX2_byteAt 0 = .ok (.iload_n 1, 1) := by decide +kernel
theorem dX2_byteAt_1 : decode cX2_byteAt 1 = .ok (.ifCond .lt 27, 3) := by decide +kernel
theorem dX2_byteAt_4 : decode cX2_byteAt 4 = .ok (.iload_n 1, 1) := by decide +kernel
theorem dX2_byteAt_5 : decode cX2_byteAt 5 = .ok (.aload_n 0, 1) := by decide +kernel
theorem dX2_byteAt_6 : decode cX2_byteAt 6 = .ok (.getfield 15, 3) := by decide +kernel
theorem dX2_byteAt_9 : decode cX2_byteAt 9 = .ok (.if_icmp .ge 19, 3) := by decide +kernel
theorem dX2_byteAt_12 : decode cX2_byteAt 12 = .ok (.iload_n 1, 1) := by decide +kernel
theorem dX2_byteAt_13 : decode cX2_byteAt 13 = .ok (.sipush 150, 3) := by decide +kernel
theorem dX2_byteAt_16 : decode cX2_byteAt 16 = .ok (.if_icmp .ge 12, 3) := by decide +kernel
theorem dX2_byteAt_19 : decode cX2_byteAt 19 = .ok (.aload_n 0, 1) := by decide +kernel
theorem dX2_byteAt_20 : decode cX2_byteAt 20 = .ok (.getfield 9, 3) := by decide +kernel
theorem dX2_byteAt_23 : decode cX2_byteAt 23 = .ok (.iload_n 1, 1) := by decide +kernel
theorem dX2_byteAt_24 : decode cX2_byteAt 24 = .ok (.iaload, 1) := by decide +kernel
theorem dX2_byteAt_25 : decode cX2_byteAt 25 = .ok (.goto 4, 3) := by decide +kernel
theorem dX2_byteAt_28 : decode cX2_byteAt 28 = .ok (.iconst (-1), 1) := by decide +kernel
theorem dX2_byteAt_29 : decode cX2_byteAt 29 = .ok (.ireturn, 1) := by decide +kernel
theorem dX2_sortOf_0 : decode cX2_sortOf 0 = .ok (.iload_n 0, 1) := by decide +kernel
theorem dX2_sortOf_1 : decode cX2_sortOf 1 = .ok (.iconst (-1), 1) := by decide +kernel
theorem dX2_sortOf_2 : decode cX2_sortOf 2 = .ok (.if_icmp .ne 5, 3) := by decide +kernel
theorem dX2_sortOf_5 : decode cX2_sortOf 5 = .ok (.iconst 0, 1) := by decide +kernel
theorem dX2_sortOf_6 : decode cX2_sortOf 6 = .ok (.ireturn, 1) := by decide +kernel
theorem dX2_sortOf_7 : decode cX2_sortOf 7 = .ok (.iload_n 0, 1) := by decide +kernel
theorem dX2_sortOf_8 : decode cX2_sortOf 8 = .ok (.bipush 97, 2) := by decide +kernel
theorem dX2_sortOf_10 : decode cX2_sortOf 10 = .ok (.if_icmp .lt 11, 3) := by decide +kernel
theorem dX2_sortOf_13 : decode cX2_sortOf 13 = .ok (.iload_n 0, 1) := by decide +kernel
theorem dX2_sortOf_14 : decode cX2_sortOf 14 = .ok (.bipush 122, 2) := by decide +kernel
theorem dX2_sortOf_16 : decode cX2_sortOf 16 = .ok (.if_icmp .gt 5, 3) := by decide +kernel
theorem dX2_sortOf_19 : decode cX2_sortOf 19 = .ok (.iconst 1, 1) := by decide +kernel
theorem dX2_sortOf_20 : decode cX2_sortOf 20 = .ok (.ireturn, 1) := by decide +kernel
theorem dX2_sortOf_21 : decode cX2_sortOf 21 = .ok (.iload_n 0, 1) := by decide +kernel
theorem dX2_sortOf_22 : decode cX2_sortOf 22 = .ok (.bipush 48, 2) := by decide +kernel
theorem dX2_sortOf_24 : decode cX2_sortOf 24 = .ok (.if_icmp .lt 11, 3) := by decide +kernel
theorem dX2_sortOf_27 : decode cX2_sortOf 27 = .ok (.iload_n 0, 1) := by decide +kernel
theorem dX2_sortOf_28 : decode cX2_sortOf 28 = .ok (.bipush 57, 2) := by decide +kernel
theorem dX2_sortOf_30 : decode cX2_sortOf 30 = .ok (.if_icmp .gt 5, 3) := by decide +kernel
theorem dX2_sortOf_33 : decode cX2_sortOf 33 = .ok (.iconst 2, 1) := by decide +kernel
theorem dX2_sortOf_34 : decode cX2_sortOf 34 = .ok (.ireturn, 1) := by decide +kernel
theorem dX2_sortOf_35 : decode cX2_sortOf 35 = .ok (.iload_n 0, 1) := by decide +kernel
theorem dX2_sortOf_36 : decode cX2_sortOf 36 = .ok (.bipush 59, 2) := by decide +kernel
theorem dX2_sortOf_38 : decode cX2_sortOf 38 = .ok (.if_icmp .ne 7, 3) := by decide +kernel
theorem dX2_sortOf_41 : decode cX2_sortOf 41 = .ok (.iconst 3, 1) := by decide +kernel
theorem dX2_sortOf_42 : decode cX2_sortOf 42 = .ok (.goto 4, 3) := by decide +kernel
theorem dX2_sortOf_45 : decode cX2_sortOf 45 = .ok (.iconst 4, 1) := by decide +kernel
theorem dX2_sortOf_46 : decode cX2_sortOf 46 = .ok (.ireturn, 1) := by decide +kernel
theorem dJ6_bitCount_0f7a4_0 : decode cJ6_bitCount_0f7a4 0 = .ok (.iload_n 0, 1) := by decide +kernel
theorem dJ6_bitCount_0f7a4_1 : decode cJ6_bitCount_0f7a4 1 = .ok (.iload_n 0, 1) := by decide +kernel
theorem dJ6_bitCount_0f7a4_2 : decode cJ6_bitCount_0f7a4 2 = .ok (.iconst 1, 1) := by decide +kernel
theorem dJ6_bitCount_0f7a4_3 : decode cJ6_bitCount_0f7a4 3 = .ok (.iushr, 1) := by decide +kernel
theorem dJ6_bitCount_0f7a4_4 : decode cJ6_bitCount_0f7a4 4 = .ok (.ldc_w 265, 3) := by decide +kernel
theorem dJ6_bitCount_0f7a4_7 : decode cJ6_bitCount_0f7a4 7 = .ok (.iand, 1) := by decide +kernel
theorem dJ6_bitCount_0f7a4_8 : decode cJ6_bitCount_0f7a4 8 = .ok (.isub, 1) := by decide +kernel
theorem dJ6_bitCount_0f7a4_9 : decode cJ6_bitCount_0f7a4 9 = .ok (.istore_n 0, 1) := by decide +kernel
theorem dJ6_bitCount_0f7a4_10 : decode cJ6_bitCount_0f7a4 10 = .ok (.iload_n 0, 1) := by decide +kernel
theorem dJ6_bitCount_0f7a4_11 : decode cJ6_bitCount_0f7a4 11 = .ok (.ldc_w 266, 3) := by decide +kernel
theorem dJ6_bitCount_0f7a4_14 : decode cJ6_bitCount_0f7a4 14 = .ok (.iand, 1) := by decide +kernel
theorem dJ6_bitCount_0f7a4_15 : decode cJ6_bitCount_0f7a4 15 = .ok (.iload_n 0, 1) := by decide +kernel
theorem dJ6_bitCount_0f7a4_16 : decode cJ6_bitCount_0f7a4 16 = .ok (.iconst 2, 1) := by decide +kernel
theorem dJ6_bitCount_0f7a4_17 : decode cJ6_bitCount_0f7a4 17 = .ok (.iushr, 1) := by decide +kernel
theorem dJ6_bitCount_0f7a4_18 : decode cJ6_bitCount_0f7a4 18 = .ok (.ldc_w 266, 3) := by decide +kernel
theorem dJ6_bitCount_0f7a4_21 : decode cJ6_bitCount_0f7a4 21 = .ok (.iand, 1) := by decide +kernel
theorem dJ6_bitCount_0f7a4_22 : decode cJ6_bitCount_0f7a4 22 = .ok (.iadd, 1) := by decide +kernel
theorem dJ6_bitCount_0f7a4_23 : decode cJ6_bitCount_0f7a4 23 = .ok (.istore_n 0, 1) := by decide +kernel
theorem dJ6_bitCount_0f7a4_24 : decode cJ6_bitCount_0f7a4 24 = .ok (.iload_n 0, 1) := by decide +kernel
theorem dJ6_bitCount_0f7a4_25 : decode cJ6_bitCount_0f7a4 25 = .ok (.iload_n 0, 1) := by decide +kernel
theorem dJ6_bitCount_0f7a4_26 : decode cJ6_bitCount_0f7a4 26 = .ok (.iconst 4, 1) := by decide +kernel
theorem dJ6_bitCount_0f7a4_27 : decode cJ6_bitCount_0f7a4 27 = .ok (.iushr, 1) := by decide +kernel
theorem dJ6_bitCount_0f7a4_28 : decode cJ6_bitCount_0f7a4 28 = .ok (.iadd, 1) := by decide +kernel
theorem dJ6_bitCount_0f7a4_29 : decode cJ6_bitCount_0f7a4 29 = .ok (.ldc_w 267, 3) := by decide +kernel
theorem dJ6_bitCount_0f7a4_32 : decode cJ6_bitCount_0f7a4 32 = .ok (.iand, 1) := by decide +kernel
theorem dJ6_bitCount_0f7a4_33 : decode cJ6_bitCount_0f7a4 33 = .ok (.istore_n 0, 1) := by decide +kernel
theorem dJ6_bitCount_0f7a4_34 : decode cJ6_bitCount_0f7a4 34 = .ok (.iload_n 0, 1) := by decide +kernel
theorem dJ6_bitCount_0f7a4_35 : decode cJ6_bitCount_0f7a4 35 = .ok (.iload_n 0, 1) := by decide +kernel
theorem dJ6_bitCount_0f7a4_36 : decode cJ6_bitCount_0f7a4 36 = .ok (.bipush 8, 2) := by decide +kernel
theorem dJ6_bitCount_0f7a4_38 : decode cJ6_bitCount_0f7a4 38 = .ok (.iushr, 1) := by decide +kernel
theorem dJ6_bitCount_0f7a4_39 : decode cJ6_bitCount_0f7a4 39 = .ok (.iadd, 1) := by decide +kernel
theorem dJ6_bitCount_0f7a4_40 : decode cJ6_bitCount_0f7a4 40 = .ok (.istore_n 0, 1) := by decide +kernel
theorem dJ6_bitCount_0f7a4_41 : decode cJ6_bitCount_0f7a4 41 = .ok (.iload_n 0, 1) := by decide +kernel
theorem dJ6_bitCount_0f7a4_42 : decode cJ6_bitCount_0f7a4 42 = .ok (.iload_n 0, 1) := by decide +kernel
theorem dJ6_bitCount_0f7a4_43 : decode cJ6_bitCount_0f7a4 43 = .ok (.bipush 16, 2) := by decide +kernel
theorem dJ6_bitCount_0f7a4_45 : decode cJ6_bitCount_0f7a4 45 = .ok (.iushr, 1) := by decide +kernel
theorem dJ6_bitCount_0f7a4_46 : decode cJ6_bitCount_0f7a4 46 = .ok (.iadd, 1) := by decide +kernel
theorem dJ6_bitCount_0f7a4_47 : decode cJ6_bitCount_0f7a4 47 = .ok (.istore_n 0, 1) := by decide +kernel
theorem dJ6_bitCount_0f7a4_48 : decode cJ6_bitCount_0f7a4 48 = .ok (.iload_n 0, 1) := by decide +kernel
theorem dJ6_bitCount_0f7a4_49 : decode cJ6_bitCount_0f7a4 49 = .ok (.bipush 63, 2) := by decide +kernel
theorem dJ6_bitCount_0f7a4_51 : decode cJ6_bitCount_0f7a4 51 = .ok (.iand, 1) := by decide +kernel
theorem dJ6_bitCount_0f7a4_52 : decode cJ6_bitCount_0f7a4 52 = .ok (.ireturn, 1) := by decide +kernel
theorem dJ9_abs_0f7a4_0 : decode cJ9_abs_0f7a4 0 = .ok (.iload_n 0, 1) := by decide +kernel
theorem dJ9_abs_0f7a4_1 : decode cJ9_abs_0f7a4 1 = .ok (.ifCond .ge 8, 3) := by decide +kernel
theorem dJ9_abs_0f7a4_4 : decode cJ9_abs_0f7a4 4 = .ok (.iload_n 0, 1) := by decide +kernel
theorem dJ9_abs_0f7a4_5 : decode cJ9_abs_0f7a4 5 = .ok (.ineg, 1) := by decide +kernel
theorem dJ9_abs_0f7a4_6 : decode cJ9_abs_0f7a4 6 = .ok (.goto 4, 3) := by decide +kernel
theorem dJ9_abs_0f7a4_9 : decode cJ9_abs_0f7a4 9 = .ok (.iload_n 0, 1) := by decide +kernel
theorem dJ9_abs_0f7a4_10 : decode cJ9_abs_0f7a4 10 = .ok (.ireturn, 1) := by decide +kernel
theorem dJ9_max_7cf53_0 : decode cJ9_max_7cf53 0 = .ok (.iload_n 0, 1) := by decide +kernel
theorem dJ9_max_7cf53_1 : decode cJ9_max_7cf53 1 = .ok (.iload_n 1, 1) := by decide +kernel
theorem dJ9_max_7cf53_2 : decode cJ9_max_7cf53 2 = .ok (.if_icmp .lt 7, 3) := by decide +kernel
theorem dJ9_max_7cf53_5 : decode cJ9_max_7cf53 5 = .ok (.iload_n 0, 1) := by decide +kernel
theorem dJ9_max_7cf53_6 : decode cJ9_max_7cf53 6 = .ok (.goto 4, 3) := by decide +kernel
theorem dJ9_max_7cf53_9 : decode cJ9_max_7cf53 9 = .ok (.iload_n 1, 1) := by decide +kernel
theorem dJ9_max_7cf53_10 : decode cJ9_max_7cf53 10 = .ok (.ireturn, 1) := by decide +kernel
theorem dJ9_min_7cf53_0 : decode cJ9_min_7cf53 0 = .ok (.iload_n 0, 1) := by decide +kernel
theorem dJ9_min_7cf53_1 : decode cJ9_min_7cf53 1 = .ok (.iload_n 1, 1) := by decide +kernel
theorem dJ9_min_7cf53_2 : decode cJ9_min_7cf53 2 = .ok (.if_icmp .gt 7, 3) := by decide +kernel
theorem dJ9_min_7cf53_5 : decode cJ9_min_7cf53 5 = .ok (.iload_n 0, 1) := by decide +kernel
theorem dJ9_min_7cf53_6 : decode cJ9_min_7cf53 6 = .ok (.goto 4, 3) := by decide +kernel
theorem dJ9_min_7cf53_9 : decode cJ9_min_7cf53 9 = .ok (.iload_n 1, 1) := by decide +kernel
theorem dJ9_min_7cf53_10 : decode cJ9_min_7cf53 10 = .ok (.ireturn, 1) := by decide +kernel
