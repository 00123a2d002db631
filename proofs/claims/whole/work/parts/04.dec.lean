theorem dX3_init_0 : decode cX3_init 0 = .ok (.aload_n 0, 1) := by decide +kernel
theorem dX3_init_1 : decode cX3_init 1 = .ok (.invokespecial 1, 3) := by decide +kernel
theorem dX3_init_4 : decode cX3_init 4 = .ok (.aload_n 0, 1) := by decide +kernel
theorem dX3_init_5 : decode cX3_init 5 = .ok (.new 7, 3) := by decide +kernel
theorem dX3_init_8 : decode cX3_init 8 = .ok (.dup, 1) := by decide +kernel
theorem dX3_init_9 : decode cX3_init 9 = .ok (.invokespecial 9, 3) := by decide +kernel
theorem dX3_init_12 : decode cX3_init 12 = .ok (.putfield 10, 3) := by decide +kernel
theorem dX3_init_15 : decode cX3_init 15 = .ok (.aload_n 0, 1) := by decide +kernel
theorem dX3_init_16 : decode cX3_init 16 = .ok (.new 16, 3) := by decide +kernel
theorem dX3_init_19 : decode cX3_init 19 = .ok (.dup, 1) := by decide +kernel
theorem dX3_init_20 : decode cX3_init 20 = .ok (.invokespecial 18, 3) := by decide +kernel
theorem dX3_init_23 : decode cX3_init 23 = .ok (.putfield 19, 3) := by decide +kernel
theorem dX3_init_26 : decode cX3_init 26 = .ok (.aload_n 0, 1) := by decide +kernel
theorem dX3_init_27 : decode cX3_init 27 = .ok (.new 16, 3) := by decide +kernel
theorem dX3_init_30 : decode cX3_init 30 = .ok (.dup, 1) := by decide +kernel
theorem dX3_init_31 : decode cX3_init 31 = .ok (.invokespecial 18, 3) := by decide +kernel
theorem dX3_init_34 : decode cX3_init 34 = .ok (.putfield 23, 3) := by decide +kernel
theorem dX3_init_37 : decode cX3_init 37 = .ok (.aload_n 0, 1) := by decide +kernel
theorem dX3_init_38 : decode cX3_init 38 = .ok (.new 26, 3) := by decide +kernel
theorem dX3_init_41 : decode cX3_init 41 = .ok (.dup, 1) := by decide +kernel
theorem dX3_init_42 : decode cX3_init 42 = .ok (.invokespecial 28, 3) := by decide +kernel
theorem dX3_init_45 : decode cX3_init 45 = .ok (.putfield 29, 3) := by decide +kernel
theorem dX3_init_48 : decode cX3_init 48 = .ok (.aload_n 0, 1) := by decide +kernel
theorem dX3_init_49 : decode cX3_init 49 = .ok (.new 26, 3) := by decide +kernel
theorem dX3_init_52 : decode cX3_init 52 = .ok (.dup, 1) := by decide +kernel
theorem dX3_init_53 : decode cX3_init 53 = .ok (.invokespecial 28, 3) := by decide +kernel
theorem dX3_init_56 : decode cX3_init 56 = .ok (.putfield 33, 3) := by decide +kernel
theorem dX3_init_59 : decode cX3_init 59 = .ok (.aload_n 0, 1) := by decide +kernel
theorem dX3_init_60 : decode cX3_init 60 = .ok (.new 26, 3) := by decide +kernel
theorem dX3_init_63 : decode cX3_init 63 = .ok (.dup, 1) := by decide +kernel
theorem dX3_init_64 : decode cX3_init 64 = .ok (.invokespecial 28, 3) := by decide +kernel
theorem dX3_init_67 : decode cX3_init 67 = .ok (.putfield 36, 3) := by decide +kernel
theorem dX3_init_70 : decode cX3_init 70 = .ok (.aload_n 0, 1) := by decide +kernel
theorem dX3_init_71 : decode cX3_init 71 = .ok (.iconst 0, 1) := by decide +kernel
theorem dX3_init_72 : decode cX3_init 72 = .ok (.putfield 39, 3) := by decide +kernel
theorem dX3_init_75 : decode cX3_init 75 = .ok (.aload_n 0, 1) := by decide +kernel
theorem dX3_init_76 : decode cX3_init 76 = .ok (.bipush 6, 2) := by decide +kernel
theorem dX3_init_78 : decode cX3_init 78 = .ok (.newarray .int, 2) := by decide +kernel
theorem dX3_init_80 : decode cX3_init 80 = .ok (.putfield 43, 3) := by decide +kernel
theorem dX3_init_83 : decode cX3_init 83 = .ok (.aload_n 0, 1) := by decide +kernel
theorem dX3_init_84 : decode cX3_init 84 = .ok (.bipush 6, 2) := by decide +kernel
theorem dX3_init_86 : decode cX3_init 86 = .ok (.newarray .boolean, 2) := by decide +kernel
theorem dX3_init_88 : decode cX3_init 88 = .ok (.putfield 47, 3) := by decide +kernel
theorem dX3_init_91 : decode cX3_init 91 = .ok (.aload_n 0, 1) := by decide +kernel
theorem dX3_init_92 : decode cX3_init 92 = .ok (.iconst 0, 1) := by decide +kernel
theorem dX3_init_93 : decode cX3_init 93 = .ok (.putfield 51, 3) := by decide +kernel
theorem dX3_init_96 : decode cX3_init 96 = .ok (.aload_n 0, 1) := by decide +kernel
theorem dX3_init_97 : decode cX3_init 97 = .ok (.lconst 0, 1) := by decide +kernel
theorem dX3_init_98 : decode cX3_init 98 = .ok (.putfield 54, 3) := by decide +kernel
theorem dX3_init_101 : decode cX3_init 101 = .ok (.return_, 1) := by decide +kernel
theorem dX3_type_0 : decode cX3_type 0 = .ok (.iload_n 1, 1) := by decide +kernel
theorem dX3_type_1 : decode cX3_type 1 = .ok (.ifCond .lt 10, 3) := by decide +kernel
theorem dX3_type_4 : decode cX3_type 4 = .ok (.iload_n 1, 1) := by decide +kernel
theorem dX3_type_5 : decode cX3_type 5 = .ok (.sipush 255, 3) := by decide +kernel
theorem dX3_type_8 : decode cX3_type 8 = .ok (.if_icmp .le 5, 3) := by decide +kernel
theorem dX3_type_11 : decode cX3_type 11 = .ok (.iconst (-1), 1) := by decide +kernel
theorem dX3_type_12 : decode cX3_type 12 = .ok (.ireturn, 1) := by decide +kernel
theorem dX3_type_13 : decode cX3_type 13 = .ok (.aload_n 0, 1) := by decide +kernel
theorem dX3_type_14 : decode cX3_type 14 = .ok (.getfield 10, 3) := by decide +kernel
theorem dX3_type_17 : decode cX3_type 17 = .ok (.iload_n 1, 1) := by decide +kernel
theorem dX3_type_18 : decode cX3_type 18 = .ok (.invokevirtual 58, 3) := by decide +kernel
theorem dX3_type_21 : decode cX3_type 21 = .ok (.ifCond .eq 13, 3) := by decide +kernel
theorem dX3_type_24 : decode cX3_type 24 = .ok (.aload_n 0, 1) := by decide +kernel
theorem dX3_type_25 : decode cX3_type 25 = .ok (.getfield 10, 3) := by decide +kernel
theorem dX3_type_28 : decode cX3_type 28 = .ok (.getfield 62, 3) := by decide +kernel
theorem dX3_type_31 : decode cX3_type 31 = .ok (.goto 5, 3) := by decide +kernel
theorem dX3_type_34 : decode cX3_type 34 = .ok (.bipush (-3), 2) := by decide +kernel
theorem dX3_type_36 : decode cX3_type 36 = .ok (.ireturn, 1) := by decide +kernel
theorem dX3_clear_0 : decode cX3_clear 0 = .ok (.aload_n 0, 1) := by decide +kernel
theorem dX3_clear_1 : decode cX3_clear 1 = .ok (.getfield 10, 3) := by decide +kernel
theorem dX3_clear_4 : decode cX3_clear 4 = .ok (.getfield 62, 3) := by decide +kernel
theorem dX3_clear_7 : decode cX3_clear 7 = .ok (.istore_n 1, 1) := by decide +kernel
theorem dX3_clear_8 : decode cX3_clear 8 = .ok (.aload_n 0, 1) := by decide +kernel
theorem dX3_clear_9 : decode cX3_clear 9 = .ok (.getfield 10, 3) := by decide +kernel
theorem dX3_clear_12 : decode cX3_clear 12 = .ok (.iconst 0, 1) := by decide +kernel
theorem dX3_clear_13 : decode cX3_clear 13 = .ok (.putfield 62, 3) := by decide +kernel
theorem dX3_clear_16 : decode cX3_clear 16 = .ok (.iload_n 1, 1) := by decide +kernel
theorem dX3_clear_17 : decode cX3_clear 17 = .ok (.ireturn, 1) := by decide +kernel
theorem dX3_sideboard_0 : decode cX3_sideboard 0 = .ok (.aload_n 0, 1) := by decide +kernel
theorem dX3_sideboard_1 : decode cX3_sideboard 1 = .ok (.getfield 23, 3) := by decide +kernel
theorem dX3_sideboard_4 : decode cX3_sideboard 4 = .ok (.invokevirtual 65, 3) := by decide +kernel
theorem dX3_sideboard_7 : decode cX3_sideboard 7 = .ok (.aload_n 0, 1) := by decide +kernel
theorem dX3_sideboard_8 : decode cX3_sideboard 8 = .ok (.getfield 10, 3) := by decide +kernel
theorem dX3_sideboard_11 : decode cX3_sideboard 11 = .ok (.aload_n 0, 1) := by decide +kernel
theorem dX3_sideboard_12 : decode cX3_sideboard 12 = .ok (.getfield 23, 3) := by decide +kernel
theorem dX3_sideboard_15 : decode cX3_sideboard 15 = .ok (.invokevirtual 68, 3) := by decide +kernel
theorem dX3_sideboard_18 : decode cX3_sideboard 18 = .ok (.istore_n 1, 1) := by decide +kernel
theorem dX3_sideboard_19 : decode cX3_sideboard 19 = .ok (.iload_n 1, 1) := by decide +kernel
theorem dX3_sideboard_20 : decode cX3_sideboard 20 = .ok (.ifCond .ge 5, 3) := by decide +kernel
theorem dX3_sideboard_23 : decode cX3_sideboard 23 = .ok (.iload_n 1, 1) := by decide +kernel
theorem dX3_sideboard_24 : decode cX3_sideboard 24 = .ok (.ireturn, 1) := by decide +kernel
theorem dX3_sideboard_25 : decode cX3_sideboard 25 = .ok (.aload_n 0, 1) := by decide +kernel
theorem dX3_sideboard_26 : decode cX3_sideboard 26 = .ok (.getfield 23, 3) := by decide +kernel
theorem dX3_sideboard_29 : decode cX3_sideboard 29 = .ok (.astore_n 2, 1) := by decide +kernel
theorem dX3_sideboard_30 : decode cX3_sideboard 30 = .ok (.aload_n 0, 1) := by decide +kernel
theorem dX3_sideboard_31 : decode cX3_sideboard 31 = .ok (.aload_n 0, 1) := by decide +kernel
theorem dX3_sideboard_32 : decode cX3_sideboard 32 = .ok (.getfield 19, 3) := by decide +kernel
theorem dX3_sideboard_35 : decode cX3_sideboard 35 = .ok (.putfield 23, 3) := by decide +kernel
theorem dX3_sideboard_38 : decode cX3_sideboard 38 = .ok (.aload_n 0, 1) := by decide +kernel
theorem dX3_sideboard_39 : decode cX3_sideboard 39 = .ok (.aload_n 2, 1) := by decide +kernel
theorem dX3_sideboard_40 : decode cX3_sideboard 40 = .ok (.putfield 19, 3) := by decide +kernel
theorem dX3_sideboard_43 : decode cX3_sideboard 43 = .ok (.aload_n 0, 1) := by decide +kernel
theorem dX3_sideboard_44 : decode cX3_sideboard 44 = .ok (.getfield 10, 3) := by decide +kernel
theorem dX3_sideboard_47 : decode cX3_sideboard 47 = .ok (.iconst 0, 1) := by decide +kernel
theorem dX3_sideboard_48 : decode cX3_sideboard 48 = .ok (.putfield 62, 3) := by decide +kernel
theorem dX3_sideboard_51 : decode cX3_sideboard 51 = .ok (.aload_n 0, 1) := by decide +kernel
theorem dX3_sideboard_52 : decode cX3_sideboard 52 = .ok (.getfield 29, 3) := by decide +kernel
theorem dX3_sideboard_55 : decode cX3_sideboard 55 = .ok (.aload_n 0, 1) := by decide +kernel
theorem dX3_sideboard_56 : decode cX3_sideboard 56 = .ok (.getfield 19, 3) := by decide +kernel
theorem dX3_sideboard_59 : decode cX3_sideboard 59 = .ok (.invokevirtual 72, 3) := by decide +kernel
theorem dX3_sideboard_62 : decode cX3_sideboard 62 = .ok (.aload_n 0, 1) := by decide +kernel
theorem dX3_sideboard_63 : decode cX3_sideboard 63 = .ok (.iconst 0, 1) := by decide +kernel
theorem dX3_sideboard_64 : decode cX3_sideboard 64 = .ok (.putfield 39, 3) := by decide +kernel
theorem dX3_sideboard_67 : decode cX3_sideboard 67 = .ok (.aload_n 0, 1) := by decide +kernel
theorem dX3_sideboard_68 : decode cX3_sideboard 68 = .ok (.iconst 0, 1) := by decide +kernel
theorem dX3_sideboard_69 : decode cX3_sideboard 69 = .ok (.putfield 51, 3) := by decide +kernel
theorem dX3_sideboard_72 : decode cX3_sideboard 72 = .ok (.iload_n 1, 1) := by decide +kernel
theorem dX3_sideboard_73 : decode cX3_sideboard 73 = .ok (.ireturn, 1) := by decide +kernel
theorem dX3_decanter_0 : decode cX3_decanter 0 = .ok (.aload_n 0, 1) := by decide +kernel
theorem dX3_decanter_1 : decode cX3_decanter 1 = .ok (.iload_n 1, 1) := by decide +kernel
theorem dX3_decanter_2 : decode cX3_decanter 2 = .ok (.invokevirtual 76, 3) := by decide +kernel
theorem dX3_decanter_5 : decode cX3_decanter 5 = .ok (.ifCond .ne 5, 3) := by decide +kernel
theorem dX3_decanter_8 : decode cX3_decanter 8 = .ok (.iconst (-1), 1) := by decide +kernel
theorem dX3_decanter_9 : decode cX3_decanter 9 = .ok (.ireturn, 1) := by decide +kernel
theorem dX3_decanter_10 : decode cX3_decanter 10 = .ok (.iload_n 2, 1) := by decide +kernel
theorem dX3_decanter_11 : decode cX3_decanter 11 = .ok (.tableswitch 79 0 4 #[33, 43, 53, 63, 73], 33) := by decide +kernel
theorem dX3_decanter_44 : decode cX3_decanter 44 = .ok (.aload_n 0, 1) := by decide +kernel
theorem dX3_decanter_45 : decode cX3_decanter 45 = .ok (.getfield 29, 3) := by decide +kernel
theorem dX3_decanter_48 : decode cX3_decanter 48 = .ok (.getfield 79, 3) := by decide +kernel
theorem dX3_decanter_51 : decode cX3_decanter 51 = .ok (.iload_n 1, 1) := by decide +kernel
theorem dX3_decanter_52 : decode cX3_decanter 52 = .ok (.iaload, 1) := by decide +kernel
theorem dX3_decanter_53 : decode cX3_decanter 53 = .ok (.ireturn, 1) := by decide +kernel
theorem dX3_decanter_54 : decode cX3_decanter 54 = .ok (.aload_n 0, 1) := by decide +kernel
theorem dX3_decanter_55 : decode cX3_decanter 55 = .ok (.getfield 19, 3) := by decide +kernel
theorem dX3_decanter_58 : decode cX3_decanter 58 = .ok (.getfield 82, 3) := by decide +kernel
theorem dX3_decanter_61 : decode cX3_decanter 61 = .ok (.iload_n 1, 1) := by decide +kernel
theorem dX3_decanter_62 : decode cX3_decanter 62 = .ok (.iaload, 1) := by decide +kernel
theorem dX3_decanter_63 : decode cX3_decanter 63 = .ok (.ireturn, 1) := by decide +kernel
theorem dX3_decanter_64 : decode cX3_decanter 64 = .ok (.aload_n 0, 1) := by decide +kernel
theorem dX3_decanter_65 : decode cX3_decanter 65 = .ok (.getfield 29, 3) := by decide +kernel
theorem dX3_decanter_68 : decode cX3_decanter 68 = .ok (.getfield 85, 3) := by decide +kernel
theorem dX3_decanter_71 : decode cX3_decanter 71 = .ok (.iload_n 1, 1) := by decide +kernel
theorem dX3_decanter_72 : decode cX3_decanter 72 = .ok (.iaload, 1) := by decide +kernel
theorem dX3_decanter_73 : decode cX3_decanter 73 = .ok (.ireturn, 1) := by decide +kernel
theorem dX3_decanter_74 : decode cX3_decanter 74 = .ok (.aload_n 0, 1) := by decide +kernel
theorem dX3_decanter_75 : decode cX3_decanter 75 = .ok (.getfield 29, 3) := by decide +kernel
theorem dX3_decanter_78 : decode cX3_decanter 78 = .ok (.getfield 88, 3) := by decide +kernel
theorem dX3_decanter_81 : decode cX3_decanter 81 = .ok (.iload_n 1, 1) := by decide +kernel
theorem dX3_decanter_82 : decode cX3_decanter 82 = .ok (.iaload, 1) := by decide +kernel
theorem dX3_decanter_83 : decode cX3_decanter 83 = .ok (.ireturn, 1) := by decide +kernel
theorem dX3_decanter_84 : decode cX3_decanter 84 = .ok (.aload_n 0, 1) := by decide +kernel
theorem dX3_decanter_85 : decode cX3_decanter 85 = .ok (.iload_n 1, 1) := by decide +kernel
theorem dX3_decanter_86 : decode cX3_decanter 86 = .ok (.invokevirtual 91, 3) := by decide +kernel
theorem dX3_decanter_89 : decode cX3_decanter 89 = .ok (.ireturn, 1) := by decide +kernel
theorem dX3_decanter_90 : decode cX3_decanter 90 = .ok (.iconst (-1), 1) := by decide +kernel
theorem dX3_decanter_91 : decode cX3_decanter 91 = .ok (.ireturn, 1) := by decide +kernel
theorem dX3_act_0 : decode cX3_act 0 = .ok (.aload_n 0, 1) := by decide +kernel
theorem dX3_act_1 : decode cX3_act 1 = .ok (.iload_n 1, 1) := by decide +kernel
theorem dX3_act_2 : decode cX3_act 2 = .ok (.invokevirtual 95, 3) := by decide +kernel
theorem dX3_act_5 : decode cX3_act 5 = .ok (.ifCond .ne 5, 3) := by decide +kernel
theorem dX3_act_8 : decode cX3_act 8 = .ok (.iconst (-1), 1) := by decide +kernel
theorem dX3_act_9 : decode cX3_act 9 = .ok (.ireturn, 1) := by decide +kernel
theorem dX3_act_10 : decode cX3_act 10 = .ok (.iload_n 2, 1) := by decide +kernel
theorem dX3_act_11 : decode cX3_act 11 = .ok (.tableswitch 68 0 3 #[29, 39, 48, 62], 29) := by decide +kernel
theorem dX3_act_40 : decode cX3_act 40 = .ok (.aload_n 0, 1) := by decide +kernel
theorem dX3_act_41 : decode cX3_act 41 = .ok (.getfield 19, 3) := by decide +kernel
theorem dX3_act_44 : decode cX3_act 44 = .ok (.getfield 98, 3) := by decide +kernel
theorem dX3_act_47 : decode cX3_act 47 = .ok (.iload_n 1, 1) := by decide +kernel
theorem dX3_act_48 : decode cX3_act 48 = .ok (.iaload, 1) := by decide +kernel
theorem dX3_act_49 : decode cX3_act 49 = .ok (.ireturn, 1) := by decide +kernel
theorem dX3_act_50 : decode cX3_act 50 = .ok (.aload_n 0, 1) := by decide +kernel
theorem dX3_act_51 : decode cX3_act 51 = .ok (.getfield 19, 3) := by decide +kernel
theorem dX3_act_54 : decode cX3_act 54 = .ok (.iload_n 1, 1) := by decide +kernel
theorem dX3_act_55 : decode cX3_act 55 = .ok (.invokevirtual 101, 3) := by decide +kernel
theorem dX3_act_58 : decode cX3_act 58 = .ok (.ireturn, 1) := by decide +kernel
theorem dX3_act_59 : decode cX3_act 59 = .ok (.aload_n 0, 1) := by decide +kernel
theorem dX3_act_60 : decode cX3_act 60 = .ok (.iload_n 1, 1) := by decide +kernel
theorem dX3_act_61 : decode cX3_act 61 = .ok (.invokevirtual 104, 3) := by decide +kernel
theorem dX3_act_64 : decode cX3_act 64 = .ok (.ifCond .eq 7, 3) := by decide +kernel
theorem dX3_act_67 : decode cX3_act 67 = .ok (.iconst 1, 1) := by decide +kernel
theorem dX3_act_68 : decode cX3_act 68 = .ok (.goto 4, 3) := by decide +kernel
theorem dX3_act_71 : decode cX3_act 71 = .ok (.iconst 0, 1) := by decide +kernel
theorem dX3_act_72 : decode cX3_act 72 = .ok (.ireturn, 1) := by decide +kernel
theorem dX3_act_73 : decode cX3_act 73 = .ok (.aload_n 0, 1) := by decide +kernel
theorem dX3_act_74 : decode cX3_act 74 = .ok (.iload_n 1, 1) := by decide +kernel
theorem dX3_act_75 : decode cX3_act 75 = .ok (.invokevirtual 107, 3) := by decide +kernel
theorem dX3_act_78 : decode cX3_act 78 = .ok (.ireturn, 1) := by decide +kernel
theorem dX3_act_79 : decode cX3_act 79 = .ok (.iconst (-1), 1) := by decide +kernel
theorem dX3_act_80 : decode cX3_act 80 = .ok (.ireturn, 1) := by decide +kernel
theorem dX3_needs_0 : decode cX3_needs 0 = .ok (.aload_n 0, 1) := by decide +kernel
theorem dX3_needs_1 : decode cX3_needs 1 = .ok (.iload_n 1, 1) := by decide +kernel
theorem dX3_needs_2 : decode cX3_needs 2 = .ok (.invokevirtual 95, 3) := by decide +kernel
theorem dX3_needs_5 : decode cX3_needs 5 = .ok (.ifCond .eq 11, 3) := by decide +kernel
theorem dX3_needs_8 : decode cX3_needs 8 = .ok (.aload_n 0, 1) := by decide +kernel
theorem dX3_needs_9 : decode cX3_needs 9 = .ok (.iload_n 2, 1) := by decide +kernel
theorem dX3_needs_10 : decode cX3_needs 10 = .ok (.invokevirtual 76, 3) := by decide +kernel
theorem dX3_needs_13 : decode cX3_needs 13 = .ok (.ifCond .ne 5, 3) := by decide +kernel
theorem dX3_needs_16 : decode cX3_needs 16 = .ok (.iconst (-1), 1) := by decide +kernel
theorem dX3_needs_17 : decode cX3_needs 17 = .ok (.ireturn, 1) := by decide +kernel
theorem dX3_needs_18 : decode cX3_needs 18 = .ok (.aload_n 0, 1) := by decide +kernel
theorem dX3_needs_19 : decode cX3_needs 19 = .ok (.getfield 19, 3) := by decide +kernel
theorem dX3_needs_22 : decode cX3_needs 22 = .ok (.iload_n 1, 1) := by decide +kernel
theorem dX3_needs_23 : decode cX3_needs 23 = .ok (.iload_n 2, 1) := by decide +kernel
theorem dX3_needs_24 : decode cX3_needs 24 = .ok (.invokevirtual 110, 3) := by decide +kernel
theorem dX3_needs_27 : decode cX3_needs 27 = .ok (.ireturn, 1) := by decide +kernel
theorem dX3_pours_0 : decode cX3_pours 0 = .ok (.aload_n 0, 1) := by decide +kernel
theorem dX3_pours_1 : decode cX3_pours 1 = .ok (.iload_n 1, 1) := by decide +kernel
theorem dX3_pours_2 : decode cX3_pours 2 = .ok (.invokevirtual 95, 3) := by decide +kernel
theorem dX3_pours_5 : decode cX3_pours 5 = .ok (.ifCond .ne 5, 3) := by decide +kernel
theorem dX3_pours_8 : decode cX3_pours 8 = .ok (.iconst (-1), 1) := by decide +kernel
theorem dX3_pours_9 : decode cX3_pours 9 = .ok (.ireturn, 1) := by decide +kernel
theorem dX3_pours_10 : decode cX3_pours 10 = .ok (.aload_n 0, 1) := by decide +kernel
theorem dX3_pours_11 : decode cX3_pours 11 = .ok (.iload_n 1, 1) := by decide +kernel
theorem dX3_pours_12 : decode cX3_pours 12 = .ok (.invokevirtual 104, 3) := by decide +kernel
theorem dX3_pours_15 : decode cX3_pours 15 = .ok (.ifCond .ne 11, 3) := by decide +kernel
theorem dX3_pours_18 : decode cX3_pours 18 = .ok (.aload_n 0, 1) := by decide +kernel
theorem dX3_pours_19 : decode cX3_pours 19 = .ok (.iload_n 1, 1) := by decide +kernel
theorem dX3_pours_20 : decode cX3_pours 20 = .ok (.invokevirtual 114, 3) := by decide +kernel
theorem dX3_pours_23 : decode cX3_pours 23 = .ok (.ifCond .ne 6, 3) := by decide +kernel
theorem dX3_pours_26 : decode cX3_pours 26 = .ok (.bipush (-2), 2) := by decide +kernel
theorem dX3_pours_28 : decode cX3_pours 28 = .ok (.ireturn, 1) := by decide +kernel
theorem dX3_pours_29 : decode cX3_pours 29 = .ok (.aload_n 0, 1) := by decide +kernel
theorem dX3_pours_30 : decode cX3_pours 30 = .ok (.getfield 29, 3) := by decide +kernel
theorem dX3_pours_33 : decode cX3_pours 33 = .ok (.invokevirtual 117, 3) := by decide +kernel
theorem dX3_pours_36 : decode cX3_pours 36 = .ok (.aload_n 0, 1) := by decide +kernel
theorem dX3_pours_37 : decode cX3_pours 37 = .ok (.iload_n 1, 1) := by decide +kernel
theorem dX3_pours_38 : decode cX3_pours 38 = .ok (.invokevirtual 120, 3) := by decide +kernel
theorem dX3_pours_41 : decode cX3_pours 41 = .ok (.istore_n 2, 1) := by decide +kernel
theorem dX3_pours_42 : decode cX3_pours 42 = .ok (.iconst 0, 1) := by decide +kernel
theorem dX3_pours_43 : decode cX3_pours 43 = .ok (.istore_n 3, 1) := by decide +kernel
theorem dX3_pours_44 : decode cX3_pours 44 = .ok (.iload_n 3, 1) := by decide +kernel
theorem dX3_pours_45 : decode cX3_pours 45 = .ok (.aload_n 0, 1) := by decide +kernel
theorem dX3_pours_46 : decode cX3_pours 46 = .ok (.getfield 19, 3) := by decide +kernel
theorem dX3_pours_49 : decode cX3_pours 49 = .ok (.getfield 123, 3) := by decide +kernel
theorem dX3_pours_52 : decode cX3_pours 52 = .ok (.if_icmp .ge 23, 3) := by decide +kernel
theorem dX3_pours_55 : decode cX3_pours 55 = .ok (.aload_n 0, 1) := by decide +kernel
theorem dX3_pours_56 : decode cX3_pours 56 = .ok (.getfield 29, 3) := by decide +kernel
theorem dX3_pours_59 : decode cX3_pours 59 = .ok (.iload_n 3, 1) := by decide +kernel
theorem dX3_pours_60 : decode cX3_pours 60 = .ok (.aload_n 0, 1) := by decide +kernel
theorem dX3_pours_61 : decode cX3_pours 61 = .ok (.iload_n 3, 1) := by decide +kernel
theorem dX3_pours_62 : decode cX3_pours 62 = .ok (.iload_n 1, 1) := by decide +kernel
theorem dX3_pours_63 : decode cX3_pours 63 = .ok (.invokevirtual 126, 3) := by decide +kernel
theorem dX3_pours_66 : decode cX3_pours 66 = .ok (.invokevirtual 129, 3) := by decide +kernel
theorem dX3_pours_69 : decode cX3_pours 69 = .ok (.iinc 3 1, 3) := by decide +kernel
theorem dX3_pours_72 : decode cX3_pours 72 = .ok (.goto (-28), 3) := by decide +kernel
theorem dX3_pours_75 : decode cX3_pours 75 = .ok (.aload_n 0, 1) := by decide +kernel
theorem dX3_pours_76 : decode cX3_pours 76 = .ok (.getfield 29, 3) := by decide +kernel
theorem dX3_pours_79 : decode cX3_pours 79 = .ok (.dup, 1) := by decide +kernel
theorem dX3_pours_80 : decode cX3_pours 80 = .ok (.getfield 133, 3) := by decide +kernel
theorem dX3_pours_83 : decode cX3_pours 83 = .ok (.iconst 1, 1) := by decide +kernel
theorem dX3_pours_84 : decode cX3_pours 84 = .ok (.iload_n 1, 1) := by decide +kernel
theorem dX3_pours_85 : decode cX3_pours 85 = .ok (.ishl, 1) := by decide +kernel
theorem dX3_pours_86 : decode cX3_pours 86 = .ok (.ior, 1) := by decide +kernel
theorem dX3_pours_87 : decode cX3_pours 87 = .ok (.putfield 133, 3) := by decide +kernel
theorem dX3_pours_90 : decode cX3_pours 90 = .ok (.iload_n 2, 1) := by decide +kernel
theorem dX3_pours_91 : decode cX3_pours 91 = .ok (.ifCond .eq 27, 3) := by decide +kernel
theorem dX3_pours_94 : decode cX3_pours 94 = .ok (.aload_n 0, 1) := by decide +kernel
theorem dX3_pours_95 : decode cX3_pours 95 = .ok (.getfield 29, 3) := by decide +kernel
theorem dX3_pours_98 : decode cX3_pours 98 = .ok (.dup, 1) := by decide +kernel
theorem dX3_pours_99 : decode cX3_pours 99 = .ok (.getfield 136, 3) := by decide +kernel
theorem dX3_pours_102 : decode cX3_pours 102 = .ok (.aload_n 0, 1) := by decide +kernel
theorem dX3_pours_103 : decode cX3_pours 103 = .ok (.getfield 19, 3) := by decide +kernel
theorem dX3_pours_106 : decode cX3_pours 106 = .ok (.getfield 98, 3) := by decide +kernel
theorem dX3_pours_109 : decode cX3_pours 109 = .ok (.iload_n 1, 1) := by decide +kernel
theorem dX3_pours_110 : decode cX3_pours 110 = .ok (.iaload, 1) := by decide +kernel
theorem dX3_pours_111 : decode cX3_pours 111 = .ok (.iadd, 1) := by decide +kernel
theorem dX3_pours_112 : decode cX3_pours 112 = .ok (.putfield 136, 3) := by decide +kernel
theorem dX3_pours_115 : decode cX3_pours 115 = .ok (.goto 16, 3) := by decide +kernel
theorem dX3_pours_118 : decode cX3_pours 118 = .ok (.aload_n 0, 1) := by decide +kernel
theorem dX3_pours_119 : decode cX3_pours 119 = .ok (.getfield 29, 3) := by decide +kernel
theorem dX3_pours_122 : decode cX3_pours 122 = .ok (.dup, 1) := by decide +kernel
theorem dX3_pours_123 : decode cX3_pours 123 = .ok (.getfield 139, 3) := by decide +kernel
theorem dX3_pours_126 : decode cX3_pours 126 = .ok (.iconst 1, 1) := by decide +kernel
theorem dX3_pours_127 : decode cX3_pours 127 = .ok (.iadd, 1) := by decide +kernel
theorem dX3_pours_128 : decode cX3_pours 128 = .ok (.putfield 139, 3) := by decide +kernel
theorem dX3_pours_131 : decode cX3_pours 131 = .ok (.iload_n 2, 1) := by decide +kernel
theorem dX3_pours_132 : decode cX3_pours 132 = .ok (.ifCond .eq 7, 3) := by decide +kernel
theorem dX3_pours_135 : decode cX3_pours 135 = .ok (.iconst 1, 1) := by decide +kernel
theorem dX3_pours_136 : decode cX3_pours 136 = .ok (.goto 4, 3) := by decide +kernel
theorem dX3_pours_139 : decode cX3_pours 139 = .ok (.iconst 0, 1) := by decide +kernel
theorem dX3_pours_140 : decode cX3_pours 140 = .ok (.ireturn, 1) := by decide +kernel
theorem dX3_month_0 : decode cX3_month 0 = .ok (.aload_n 0, 1) := by decide +kernel
theorem dX3_month_1 : decode cX3_month 1 = .ok (.getfield 29, 3) := by decide +kernel
theorem dX3_month_4 : decode cX3_month 4 = .ok (.getfield 142, 3) := by decide +kernel
theorem dX3_month_7 : decode cX3_month 7 = .ok (.sipush 999, 3) := by decide +kernel
theorem dX3_month_10 : decode cX3_month 10 = .ok (.if_icmp .lt 6, 3) := by decide +kernel
theorem dX3_month_13 : decode cX3_month 13 = .ok (.bipush (-2), 2) := by decide +kernel
theorem dX3_month_15 : decode cX3_month 15 = .ok (.ireturn, 1) := by decide +kernel
theorem dX3_month_16 : decode cX3_month 16 = .ok (.aload_n 0, 1) := by decide +kernel
theorem dX3_month_17 : decode cX3_month 17 = .ok (.getfield 29, 3) := by decide +kernel
theorem dX3_month_20 : decode cX3_month 20 = .ok (.invokevirtual 117, 3) := by decide +kernel
theorem dX3_month_23 : decode cX3_month 23 = .ok (.iconst 0, 1) := by decide +kernel
theorem dX3_month_24 : decode cX3_month 24 = .ok (.istore_n 1, 1) := by decide +kernel
theorem dX3_month_25 : decode cX3_month 25 = .ok (.iload_n 1, 1) := by decide +kernel
theorem dX3_month_26 : decode cX3_month 26 = .ok (.aload_n 0, 1) := by decide +kernel
theorem dX3_month_27 : decode cX3_month 27 = .ok (.getfield 19, 3) := by decide +kernel
theorem dX3_month_30 : decode cX3_month 30 = .ok (.getfield 123, 3) := by decide +kernel
theorem dX3_month_33 : decode cX3_month 33 = .ok (.if_icmp .ge 26, 3) := by decide +kernel
theorem dX3_month_36 : decode cX3_month 36 = .ok (.aload_n 0, 1) := by decide +kernel
theorem dX3_month_37 : decode cX3_month 37 = .ok (.getfield 29, 3) := by decide +kernel
theorem dX3_month_40 : decode cX3_month 40 = .ok (.iload_n 1, 1) := by decide +kernel
theorem dX3_month_41 : decode cX3_month 41 = .ok (.aload_n 0, 1) := by decide +kernel
theorem dX3_month_42 : decode cX3_month 42 = .ok (.getfield 19, 3) := by decide +kernel
theorem dX3_month_45 : decode cX3_month 45 = .ok (.getfield 82, 3) := by decide +kernel
theorem dX3_month_48 : decode cX3_month 48 = .ok (.iload_n 1, 1) := by decide +kernel
theorem dX3_month_49 : decode cX3_month 49 = .ok (.iaload, 1) := by decide +kernel
theorem dX3_month_50 : decode cX3_month 50 = .ok (.invokevirtual 129, 3) := by decide +kernel
theorem dX3_month_53 : decode cX3_month 53 = .ok (.iinc 1 1, 3) := by decide +kernel
theorem dX3_month_56 : decode cX3_month 56 = .ok (.goto (-31), 3) := by decide +kernel
theorem dX3_month_59 : decode cX3_month 59 = .ok (.aload_n 0, 1) := by decide +kernel
theorem dX3_month_60 : decode cX3_month 60 = .ok (.getfield 29, 3) := by decide +kernel
theorem dX3_month_63 : decode cX3_month 63 = .ok (.dup, 1) := by decide +kernel
theorem dX3_month_64 : decode cX3_month 64 = .ok (.getfield 142, 3) := by decide +kernel
theorem dX3_month_67 : decode cX3_month 67 = .ok (.iconst 1, 1) := by decide +kernel
theorem dX3_month_68 : decode cX3_month 68 = .ok (.iadd, 1) := by decide +kernel
theorem dX3_month_69 : decode cX3_month 69 = .ok (.putfield 142, 3) := by decide +kernel
theorem dX3_month_72 : decode cX3_month 72 = .ok (.aload_n 0, 1) := by decide +kernel
theorem dX3_month_73 : decode cX3_month 73 = .ok (.getfield 29, 3) := by decide +kernel
theorem dX3_month_76 : decode cX3_month 76 = .ok (.getfield 142, 3) := by decide +kernel
theorem dX3_month_79 : decode cX3_month 79 = .ok (.ireturn, 1) := by decide +kernel
theorem dX3_tops_0 : decode cX3_tops 0 = .ok (.aload_n 0, 1) := by decide +kernel
theorem dX3_tops_1 : decode cX3_tops 1 = .ok (.iload_n 1, 1) := by decide +kernel
theorem dX3_tops_2 : decode cX3_tops 2 = .ok (.invokevirtual 76, 3) := by decide +kernel
theorem dX3_tops_5 : decode cX3_tops 5 = .ok (.ifCond .eq 14, 3) := by decide +kernel
theorem dX3_tops_8 : decode cX3_tops 8 = .ok (.iload_n 2, 1) := by decide +kernel
theorem dX3_tops_9 : decode cX3_tops 9 = .ok (.iconst 1, 1) := by decide +kernel
theorem dX3_tops_10 : decode cX3_tops 10 = .ok (.if_icmp .lt 9, 3) := by decide +kernel
theorem dX3_tops_13 : decode cX3_tops 13 = .ok (.iload_n 2, 1) := by decide +kernel
theorem dX3_tops_14 : decode cX3_tops 14 = .ok (.bipush 40, 2) := by decide +kernel
theorem dX3_tops_16 : decode cX3_tops 16 = .ok (.if_icmp .le 5, 3) := by decide +kernel
theorem dX3_tops_19 : decode cX3_tops 19 = .ok (.iconst (-1), 1) := by decide +kernel
theorem dX3_tops_20 : decode cX3_tops 20 = .ok (.ireturn, 1) := by decide +kernel
theorem dX3_tops_21 : decode cX3_tops 21 = .ok (.aload_n 0, 1) := by decide +kernel
theorem dX3_tops_22 : decode cX3_tops 22 = .ok (.getfield 29, 3) := by decide +kernel
theorem dX3_tops_25 : decode cX3_tops 25 = .ok (.getfield 79, 3) := by decide +kernel
theorem dX3_tops_28 : decode cX3_tops 28 = .ok (.iload_n 1, 1) := by decide +kernel
theorem dX3_tops_29 : decode cX3_tops 29 = .ok (.iaload, 1) := by decide +kernel
theorem dX3_tops_30 : decode cX3_tops 30 = .ok (.iload_n 2, 1) := by decide +kernel
theorem dX3_tops_31 : decode cX3_tops 31 = .ok (.iadd, 1) := by decide +kernel
theorem dX3_tops_32 : decode cX3_tops 32 = .ok (.bipush 40, 2) := by decide +kernel
theorem dX3_tops_34 : decode cX3_tops 34 = .ok (.if_icmp .le 6, 3) := by decide +kernel
theorem dX3_tops_37 : decode cX3_tops 37 = .ok (.bipush (-2), 2) := by decide +kernel
theorem dX3_tops_39 : decode cX3_tops 39 = .ok (.ireturn, 1) := by decide +kernel
theorem dX3_tops_40 : decode cX3_tops 40 = .ok (.aload_n 0, 1) := by decide +kernel
theorem dX3_tops_41 : decode cX3_tops 41 = .ok (.getfield 29, 3) := by decide +kernel
theorem dX3_tops_44 : decode cX3_tops 44 = .ok (.invokevirtual 117, 3) := by decide +kernel
theorem dX3_tops_47 : decode cX3_tops 47 = .ok (.aload_n 0, 1) := by decide +kernel
theorem dX3_tops_48 : decode cX3_tops 48 = .ok (.getfield 29, 3) := by decide +kernel
theorem dX3_tops_51 : decode cX3_tops 51 = .ok (.getfield 79, 3) := by decide +kernel
theorem dX3_tops_54 : decode cX3_tops 54 = .ok (.iload_n 1, 1) := by decide +kernel
theorem dX3_tops_55 : decode cX3_tops 55 = .ok (.dup2, 1) := by decide +kernel
theorem dX3_tops_56 : decode cX3_tops 56 = .ok (.iaload, 1) := by decide +kernel
theorem dX3_tops_57 : decode cX3_tops 57 = .ok (.iload_n 2, 1) := by decide +kernel
theorem dX3_tops_58 : decode cX3_tops 58 = .ok (.iadd, 1) := by decide +kernel
theorem dX3_tops_59 : decode cX3_tops 59 = .ok (.iastore, 1) := by decide +kernel
theorem dX3_tops_60 : decode cX3_tops 60 = .ok (.aload_n 0, 1) := by decide +kernel
theorem dX3_tops_61 : decode cX3_tops 61 = .ok (.getfield 29, 3) := by decide +kernel
theorem dX3_tops_64 : decode cX3_tops 64 = .ok (.getfield 85, 3) := by decide +kernel
theorem dX3_tops_67 : decode cX3_tops 67 = .ok (.iload_n 1, 1) := by decide +kernel
theorem dX3_tops_68 : decode cX3_tops 68 = .ok (.dup2, 1) := by decide +kernel
theorem dX3_tops_69 : decode cX3_tops 69 = .ok (.iaload, 1) := by decide +kernel
theorem dX3_tops_70 : decode cX3_tops 70 = .ok (.iload_n 2, 1) := by decide +kernel
theorem dX3_tops_71 : decode cX3_tops 71 = .ok (.iadd, 1) := by decide +kernel
theorem dX3_tops_72 : decode cX3_tops 72 = .ok (.iastore, 1) := by decide +kernel
theorem dX3_tops_73 : decode cX3_tops 73 = .ok (.aload_n 0, 1) := by decide +kernel
theorem dX3_tops_74 : decode cX3_tops 74 = .ok (.getfield 29, 3) := by decide +kernel
theorem dX3_tops_77 : decode cX3_tops 77 = .ok (.getfield 79, 3) := by decide +kernel
theorem dX3_tops_80 : decode cX3_tops 80 = .ok (.iload_n 1, 1) := by decide +kernel
theorem dX3_tops_81 : decode cX3_tops 81 = .ok (.iaload, 1) := by decide +kernel
theorem dX3_tops_82 : decode cX3_tops 82 = .ok (.ireturn, 1) := by decide +kernel
theorem dX3_labels_0 : decode cX3_labels 0 = .ok (.aload_n 0, 1) := by decide +kernel
theorem dX3_labels_1 : decode cX3_labels 1 = .ok (.iload_n 1, 1) := by decide +kernel
theorem dX3_labels_2 : decode cX3_labels 2 = .ok (.invokevirtual 76, 3) := by decide +kernel
theorem dX3_labels_5 : decode cX3_labels 5 = .ok (.ifCond .eq 16, 3) := by decide +kernel
theorem dX3_labels_8 : decode cX3_labels 8 = .ok (.aload_n 0, 1) := by decide +kernel
theorem dX3_labels_9 : decode cX3_labels 9 = .ok (.iload_n 2, 1) := by decide +kernel
theorem dX3_labels_10 : decode cX3_labels 10 = .ok (.invokevirtual 76, 3) := by decide +kernel
theorem dX3_labels_13 : decode cX3_labels 13 = .ok (.ifCond .eq 8, 3) := by decide +kernel
theorem dX3_labels_16 : decode cX3_labels 16 = .ok (.iload_n 1, 1) := by decide +kernel
theorem dX3_labels_17 : decode cX3_labels 17 = .ok (.iload_n 2, 1) := by decide +kernel
theorem dX3_labels_18 : decode cX3_labels 18 = .ok (.if_icmp .ne 5, 3) := by decide +kernel
theorem dX3_labels_21 : decode cX3_labels 21 = .ok (.iconst (-1), 1) := by decide +kernel
theorem dX3_labels_22 : decode cX3_labels 22 = .ok (.ireturn, 1) := by decide +kernel
theorem dX3_labels_23 : decode cX3_labels 23 = .ok (.aload_n 0, 1) := by decide +kernel
theorem dX3_labels_24 : decode cX3_labels 24 = .ok (.getfield 29, 3) := by decide +kernel
theorem dX3_labels_27 : decode cX3_labels 27 = .ok (.invokevirtual 117, 3) := by decide +kernel
theorem dX3_labels_30 : decode cX3_labels 30 = .ok (.aload_n 0, 1) := by decide +kernel
theorem dX3_labels_31 : decode cX3_labels 31 = .ok (.getfield 29, 3) := by decide +kernel
theorem dX3_labels_34 : decode cX3_labels 34 = .ok (.getfield 88, 3) := by decide +kernel
theorem dX3_labels_37 : decode cX3_labels 37 = .ok (.iload_n 1, 1) := by decide +kernel
theorem dX3_labels_38 : decode cX3_labels 38 = .ok (.iaload, 1) := by decide +kernel
theorem dX3_labels_39 : decode cX3_labels 39 = .ok (.istore_n 3, 1) := by decide +kernel
theorem dX3_labels_40 : decode cX3_labels 40 = .ok (.aload_n 0, 1) := by decide +kernel
theorem dX3_labels_41 : decode cX3_labels 41 = .ok (.getfield 29, 3) := by decide +kernel
theorem dX3_labels_44 : decode cX3_labels 44 = .ok (.getfield 88, 3) := by decide +kernel
theorem dX3_labels_47 : decode cX3_labels 47 = .ok (.iload_n 1, 1) := by decide +kernel
theorem dX3_labels_48 : decode cX3_labels 48 = .ok (.aload_n 0, 1) := by decide +kernel
theorem dX3_labels_49 : decode cX3_labels 49 = .ok (.getfield 29, 3) := by decide +kernel
theorem dX3_labels_52 : decode cX3_labels 52 = .ok (.getfield 88, 3) := by decide +kernel
theorem dX3_labels_55 : decode cX3_labels 55 = .ok (.iload_n 2, 1) := by decide +kernel
theorem dX3_labels_56 : decode cX3_labels 56 = .ok (.iaload, 1) := by decide +kernel
theorem dX3_labels_57 : decode cX3_labels 57 = .ok (.iastore, 1) := by decide +kernel
theorem dX3_labels_58 : decode cX3_labels 58 = .ok (.aload_n 0, 1) := by decide +kernel
theorem dX3_labels_59 : decode cX3_labels 59 = .ok (.getfield 29, 3) := by decide +kernel
theorem dX3_labels_62 : decode cX3_labels 62 = .ok (.getfield 88, 3) := by decide +kernel
theorem dX3_labels_65 : decode cX3_labels 65 = .ok (.iload_n 2, 1) := by decide +kernel
theorem dX3_labels_66 : decode cX3_labels 66 = .ok (.iload_n 3, 1) := by decide +kernel
theorem dX3_labels_67 : decode cX3_labels 67 = .ok (.iastore, 1) := by decide +kernel
theorem dX3_labels_68 : decode cX3_labels 68 = .ok (.iconst 0, 1) := by decide +kernel
theorem dX3_labels_69 : decode cX3_labels 69 = .ok (.istore 4, 2) := by decide +kernel
theorem dX3_labels_71 : decode cX3_labels 71 = .ok (.iconst 0, 1) := by decide +kernel
theorem dX3_labels_72 : decode cX3_labels 72 = .ok (.istore 5, 2) := by decide +kernel
theorem dX3_labels_74 : decode cX3_labels 74 = .ok (.iload 5, 2) := by decide +kernel
theorem dX3_labels_76 : decode cX3_labels 76 = .ok (.aload_n 0, 1) := by decide +kernel
theorem dX3_labels_77 : decode cX3_labels 77 = .ok (.getfield 19, 3) := by decide +kernel
theorem dX3_labels_80 : decode cX3_labels 80 = .ok (.getfield 123, 3) := by decide +kernel
theorem dX3_labels_83 : decode cX3_labels 83 = .ok (.if_icmp .ge 27, 3) := by decide +kernel
theorem dX3_labels_86 : decode cX3_labels 86 = .ok (.aload_n 0, 1) := by decide +kernel
theorem dX3_labels_87 : decode cX3_labels 87 = .ok (.getfield 29, 3) := by decide +kernel
theorem dX3_labels_90 : decode cX3_labels 90 = .ok (.getfield 88, 3) := by decide +kernel
theorem dX3_labels_93 : decode cX3_labels 93 = .ok (.iload 5, 2) := by decide +kernel
theorem dX3_labels_95 : decode cX3_labels 95 = .ok (.iaload, 1) := by decide +kernel
theorem dX3_labels_96 : decode cX3_labels 96 = .ok (.iload 5, 2) := by decide +kernel
theorem dX3_labels_98 : decode cX3_labels 98 = .ok (.if_icmp .ne 6, 3) := by decide +kernel
theorem dX3_labels_101 : decode cX3_labels 101 = .ok (.iinc 4 1, 3) := by decide +kernel
theorem dX3_labels_104 : decode cX3_labels 104 = .ok (.iinc 5 1, 3) := by decide +kernel
theorem dX3_labels_107 : decode cX3_labels 107 = .ok (.goto (-33), 3) := by decide +kernel
theorem dX3_labels_110 : decode cX3_labels 110 = .ok (.iload 4, 2) := by decide +kernel
theorem dX3_labels_112 : decode cX3_labels 112 = .ok (.ireturn, 1) := by decide +kernel
theorem dX3_undo_0 : decode cX3_undo 0 = .ok (.aload_n 0, 1) := by decide +kernel
theorem dX3_undo_1 : decode cX3_undo 1 = .ok (.getfield 29, 3) := by decide +kernel
theorem dX3_undo_4 : decode cX3_undo 4 = .ok (.invokevirtual 145, 3) := by decide +kernel
theorem dX3_undo_7 : decode cX3_undo 7 = .ok (.ifCond .eq 13, 3) := by decide +kernel
theorem dX3_undo_10 : decode cX3_undo 10 = .ok (.aload_n 0, 1) := by decide +kernel
theorem dX3_undo_11 : decode cX3_undo 11 = .ok (.getfield 29, 3) := by decide +kernel
theorem dX3_undo_14 : decode cX3_undo 14 = .ok (.getfield 149, 3) := by decide +kernel
theorem dX3_undo_17 : decode cX3_undo 17 = .ok (.goto 5, 3) := by decide +kernel
theorem dX3_undo_20 : decode cX3_undo 20 = .ok (.bipush (-2), 2) := by decide +kernel
theorem dX3_undo_22 : decode cX3_undo 22 = .ok (.ireturn, 1) := by decide +kernel
theorem dX3_now_0 : decode cX3_now 0 = .ok (.iload_n 1, 1) := by decide +kernel
theorem dX3_now_1 : decode cX3_now 1 = .ok (.tableswitch 81 0 5 #[39, 47, 55, 63, 71, 76], 39) := by decide +kernel
theorem dX3_now_40 : decode cX3_now 40 = .ok (.aload_n 0, 1) := by decide +kernel
theorem dX3_now_41 : decode cX3_now 41 = .ok (.getfield 29, 3) := by decide +kernel
theorem dX3_now_44 : decode cX3_now 44 = .ok (.getfield 142, 3) := by decide +kernel
theorem dX3_now_47 : decode cX3_now 47 = .ok (.ireturn, 1) := by decide +kernel
theorem dX3_now_48 : decode cX3_now 48 = .ok (.aload_n 0, 1) := by decide +kernel
theorem dX3_now_49 : decode cX3_now 49 = .ok (.getfield 29, 3) := by decide +kernel
theorem dX3_now_52 : decode cX3_now 52 = .ok (.getfield 133, 3) := by decide +kernel
theorem dX3_now_55 : decode cX3_now 55 = .ok (.ireturn, 1) := by decide +kernel
theorem dX3_now_56 : decode cX3_now 56 = .ok (.aload_n 0, 1) := by decide +kernel
theorem dX3_now_57 : decode cX3_now 57 = .ok (.getfield 29, 3) := by decide +kernel
theorem dX3_now_60 : decode cX3_now 60 = .ok (.getfield 136, 3) := by decide +kernel
theorem dX3_now_63 : decode cX3_now 63 = .ok (.ireturn, 1) := by decide +kernel
theorem dX3_now_64 : decode cX3_now 64 = .ok (.aload_n 0, 1) := by decide +kernel
theorem dX3_now_65 : decode cX3_now 65 = .ok (.getfield 29, 3) := by decide +kernel
theorem dX3_now_68 : decode cX3_now 68 = .ok (.getfield 139, 3) := by decide +kernel
theorem dX3_now_71 : decode cX3_now 71 = .ok (.ireturn, 1) := by decide +kernel
theorem dX3_now_72 : decode cX3_now 72 = .ok (.aload_n 0, 1) := by decide +kernel
theorem dX3_now_73 : decode cX3_now 73 = .ok (.invokevirtual 152, 3) := by decide +kernel
theorem dX3_now_76 : decode cX3_now 76 = .ok (.ireturn, 1) := by decide +kernel
theorem dX3_now_77 : decode cX3_now 77 = .ok (.aload_n 0, 1) := by decide +kernel
theorem dX3_now_78 : decode cX3_now 78 = .ok (.invokevirtual 156, 3) := by decide +kernel
theorem dX3_now_81 : decode cX3_now 81 = .ok (.ireturn, 1) := by decide +kernel
theorem dX3_now_82 : decode cX3_now 82 = .ok (.iconst (-1), 1) := by decide +kernel
theorem dX3_now_83 : decode cX3_now 83 = .ok (.ireturn, 1) := by decide +kernel
theorem dX3_tray_0 : decode cX3_tray 0 = .ok (.iload_n 1, 1) := by decide +kernel
theorem dX3_tray_1 : decode cX3_tray 1 = .ok (.invokestatic 159, 3) := by decide +kernel
theorem dX3_tray_4 : decode cX3_tray 4 = .ok (.ifCond .ne 5, 3) := by decide +kernel
theorem dX3_tray_7 : decode cX3_tray 7 = .ok (.iconst (-1), 1) := by decide +kernel
theorem dX3_tray_8 : decode cX3_tray 8 = .ok (.ireturn, 1) := by decide +kernel
theorem dX3_tray_9 : decode cX3_tray 9 = .ok (.iconst 0, 1) := by decide +kernel
theorem dX3_tray_10 : decode cX3_tray 10 = .ok (.istore_n 2, 1) := by decide +kernel
theorem dX3_tray_11 : decode cX3_tray 11 = .ok (.iconst 1, 1) := by decide +kernel
theorem dX3_tray_12 : decode cX3_tray 12 = .ok (.istore_n 3, 1) := by decide +kernel
theorem dX3_tray_13 : decode cX3_tray 13 = .ok (.iload_n 3, 1) := by decide +kernel
theorem dX3_tray_14 : decode cX3_tray 14 = .ok (.iconst 1, 1) := by decide +kernel
theorem dX3_tray_15 : decode cX3_tray 15 = .ok (.aload_n 0, 1) := by decide +kernel
theorem dX3_tray_16 : decode cX3_tray 16 = .ok (.getfield 19, 3) := by decide +kernel
theorem dX3_tray_19 : decode cX3_tray 19 = .ok (.getfield 162, 3) := by decide +kernel
theorem dX3_tray_22 : decode cX3_tray 22 = .ok (.ishl, 1) := by decide +kernel
theorem dX3_tray_23 : decode cX3_tray 23 = .ok (.if_icmp .ge 50, 3) := by decide +kernel
theorem dX3_tray_26 : decode cX3_tray 26 = .ok (.iload_n 3, 1) := by decide +kernel
theorem dX3_tray_27 : decode cX3_tray 27 = .ok (.aload_n 0, 1) := by decide +kernel
theorem dX3_tray_28 : decode cX3_tray 28 = .ok (.getfield 29, 3) := by decide +kernel
theorem dX3_tray_31 : decode cX3_tray 31 = .ok (.getfield 133, 3) := by decide +kernel
theorem dX3_tray_34 : decode cX3_tray 34 = .ok (.iand, 1) := by decide +kernel
theorem dX3_tray_35 : decode cX3_tray 35 = .ok (.ifCond .ne 32, 3) := by decide +kernel
theorem dX3_tray_38 : decode cX3_tray 38 = .ok (.aload_n 0, 1) := by decide +kernel
theorem dX3_tray_39 : decode cX3_tray 39 = .ok (.getfield 19, 3) := by decide +kernel
theorem dX3_tray_42 : decode cX3_tray 42 = .ok (.iload_n 3, 1) := by decide +kernel
theorem dX3_tray_43 : decode cX3_tray 43 = .ok (.invokevirtual 165, 3) := by decide +kernel
theorem dX3_tray_46 : decode cX3_tray 46 = .ok (.aload_n 0, 1) := by decide +kernel
theorem dX3_tray_47 : decode cX3_tray 47 = .ok (.getfield 19, 3) := by decide +kernel
theorem dX3_tray_50 : decode cX3_tray 50 = .ok (.iload_n 2, 1) := by decide +kernel
theorem dX3_tray_51 : decode cX3_tray 51 = .ok (.invokevirtual 165, 3) := by decide +kernel
theorem dX3_tray_54 : decode cX3_tray 54 = .ok (.if_icmp .le 13, 3) := by decide +kernel
theorem dX3_tray_57 : decode cX3_tray 57 = .ok (.aload_n 0, 1) := by decide +kernel
theorem dX3_tray_58 : decode cX3_tray 58 = .ok (.iload_n 3, 1) := by decide +kernel
theorem dX3_tray_59 : decode cX3_tray 59 = .ok (.invokevirtual 168, 3) := by decide +kernel
theorem dX3_tray_62 : decode cX3_tray 62 = .ok (.ifCond .eq 5, 3) := by decide +kernel
theorem dX3_tray_65 : decode cX3_tray 65 = .ok (.iload_n 3, 1) := by decide +kernel
theorem dX3_tray_66 : decode cX3_tray 66 = .ok (.istore_n 2, 1) := by decide +kernel
theorem dX3_tray_67 : decode cX3_tray 67 = .ok (.iinc 3 1, 3) := by decide +kernel
theorem dX3_tray_70 : decode cX3_tray 70 = .ok (.goto (-57), 3) := by decide +kernel
theorem dX3_tray_73 : decode cX3_tray 73 = .ok (.iload_n 1, 1) := by decide +kernel
theorem dX3_tray_74 : decode cX3_tray 74 = .ok (.ifCond .ne 7, 3) := by decide +kernel
theorem dX3_tray_77 : decode cX3_tray 77 = .ok (.iload_n 2, 1) := by decide +kernel
theorem dX3_tray_78 : decode cX3_tray 78 = .ok (.goto 11, 3) := by decide +kernel
theorem dX3_tray_81 : decode cX3_tray 81 = .ok (.aload_n 0, 1) := by decide +kernel
theorem dX3_tray_82 : decode cX3_tray 82 = .ok (.getfield 19, 3) := by decide +kernel
theorem dX3_tray_85 : decode cX3_tray 85 = .ok (.iload_n 2, 1) := by decide +kernel
theorem dX3_tray_86 : decode cX3_tray 86 = .ok (.invokevirtual 165, 3) := by decide +kernel
theorem dX3_tray_89 : decode cX3_tray 89 = .ok (.ireturn, 1) := by decide +kernel
theorem dX3_right_0 : decode cX3_right 0 = .ok (.iload_n 1, 1) := by decide +kernel
theorem dX3_right_1 : decode cX3_right 1 = .ok (.invokestatic 159, 3) := by decide +kernel
theorem dX3_right_4 : decode cX3_right 4 = .ok (.ifCond .ne 5, 3) := by decide +kernel
theorem dX3_right_7 : decode cX3_right 7 = .ok (.iconst (-1), 1) := by decide +kernel
theorem dX3_right_8 : decode cX3_right 8 = .ok (.ireturn, 1) := by decide +kernel
theorem dX3_right_9 : decode cX3_right 9 = .ok (.iload_n 1, 1) := by decide +kernel
theorem dX3_right_10 : decode cX3_right 10 = .ok (.ifCond .ne 10, 3) := by decide +kernel
theorem dX3_right_13 : decode cX3_right 13 = .ok (.aload_n 0, 1) := by decide +kernel
theorem dX3_right_14 : decode cX3_right 14 = .ok (.invokevirtual 171, 3) := by decide +kernel
theorem dX3_right_17 : decode cX3_right 17 = .ok (.goto 7, 3) := by decide +kernel
theorem dX3_right_20 : decode cX3_right 20 = .ok (.aload_n 0, 1) := by decide +kernel
theorem dX3_right_21 : decode cX3_right 21 = .ok (.invokevirtual 174, 3) := by decide +kernel
theorem dX3_right_24 : decode cX3_right 24 = .ok (.ireturn, 1) := by decide +kernel
theorem dX3_share_0 : decode cX3_share 0 = .ok (.iload_n 1, 1) := by decide +kernel
theorem dX3_share_1 : decode cX3_share 1 = .ok (.invokestatic 159, 3) := by decide +kernel
theorem dX3_share_4 : decode cX3_share 4 = .ok (.ifCond .ne 5, 3) := by decide +kernel
theorem dX3_share_7 : decode cX3_share 7 = .ok (.iconst (-1), 1) := by decide +kernel
theorem dX3_share_8 : decode cX3_share 8 = .ok (.ireturn, 1) := by decide +kernel
theorem dX3_share_9 : decode cX3_share 9 = .ok (.aload_n 0, 1) := by decide +kernel
theorem dX3_share_10 : decode cX3_share 10 = .ok (.getfield 19, 3) := by decide +kernel
theorem dX3_share_13 : decode cX3_share 13 = .ok (.getfield 123, 3) := by decide +kernel
theorem dX3_share_16 : decode cX3_share 16 = .ok (.ifCond .ne 7, 3) := by decide +kernel
theorem dX3_share_19 : decode cX3_share 19 = .ok (.iconst 0, 1) := by decide +kernel
theorem dX3_share_20 : decode cX3_share 20 = .ok (.goto 4, 3) := by decide +kernel
theorem dX3_share_23 : decode cX3_share 23 = .ok (.iconst 1, 1) := by decide +kernel
theorem dX3_share_24 : decode cX3_share 24 = .ok (.istore_n 2, 1) := by decide +kernel
theorem dX3_share_25 : decode cX3_share 25 = .ok (.iconst 3, 1) := by decide +kernel
theorem dX3_share_26 : decode cX3_share 26 = .ok (.istore_n 3, 1) := by decide +kernel
theorem dX3_share_27 : decode cX3_share 27 = .ok (.iload_n 3, 1) := by decide +kernel
theorem dX3_share_28 : decode cX3_share 28 = .ok (.iconst 1, 1) := by decide +kernel
theorem dX3_share_29 : decode cX3_share 29 = .ok (.aload_n 0, 1) := by decide +kernel
theorem dX3_share_30 : decode cX3_share 30 = .ok (.getfield 19, 3) := by decide +kernel
theorem dX3_share_33 : decode cX3_share 33 = .ok (.getfield 123, 3) := by decide +kernel
theorem dX3_share_36 : decode cX3_share 36 = .ok (.ishl, 1) := by decide +kernel
theorem dX3_share_37 : decode cX3_share 37 = .ok (.if_icmp .ge 24, 3) := by decide +kernel
theorem dX3_share_40 : decode cX3_share 40 = .ok (.aload_n 0, 1) := by decide +kernel
theorem dX3_share_41 : decode cX3_share 41 = .ok (.iload_n 3, 1) := by decide +kernel
theorem dX3_share_42 : decode cX3_share 42 = .ok (.invokevirtual 177, 3) := by decide +kernel
theorem dX3_share_45 : decode cX3_share 45 = .ok (.aload_n 0, 1) := by decide +kernel
theorem dX3_share_46 : decode cX3_share 46 = .ok (.iload_n 2, 1) := by decide +kernel
theorem dX3_share_47 : decode cX3_share 47 = .ok (.invokevirtual 177, 3) := by decide +kernel
theorem dX3_share_50 : decode cX3_share 50 = .ok (.if_icmp .ge 5, 3) := by decide +kernel
theorem dX3_share_53 : decode cX3_share 53 = .ok (.iload_n 3, 1) := by decide +kernel
theorem dX3_share_54 : decode cX3_share 54 = .ok (.istore_n 2, 1) := by decide +kernel
theorem dX3_share_55 : decode cX3_share 55 = .ok (.iinc 3 2, 3) := by decide +kernel
theorem dX3_share_58 : decode cX3_share 58 = .ok (.goto (-31), 3) := by decide +kernel
theorem dX3_share_61 : decode cX3_share 61 = .ok (.iload_n 1, 1) := by decide +kernel
theorem dX3_share_62 : decode cX3_share 62 = .ok (.ifCond .ne 7, 3) := by decide +kernel
theorem dX3_share_65 : decode cX3_share 65 = .ok (.iload_n 2, 1) := by decide +kernel
theorem dX3_share_66 : decode cX3_share 66 = .ok (.goto 8, 3) := by decide +kernel
theorem dX3_share_69 : decode cX3_share 69 = .ok (.aload_n 0, 1) := by decide +kernel
theorem dX3_share_70 : decode cX3_share 70 = .ok (.iload_n 2, 1) := by decide +kernel
theorem dX3_share_71 : decode cX3_share 71 = .ok (.invokevirtual 177, 3) := by decide +kernel
theorem dX3_share_74 : decode cX3_share 74 = .ok (.ireturn, 1) := by decide +kernel
theorem dX3_odds_0 : decode cX3_odds 0 = .ok (.aload_n 0, 1) := by decide +kernel
theorem dX3_odds_1 : decode cX3_odds 1 = .ok (.iload_n 1, 1) := by decide +kernel
theorem dX3_odds_2 : decode cX3_odds 2 = .ok (.invokevirtual 95, 3) := by decide +kernel
theorem dX3_odds_5 : decode cX3_odds 5 = .ok (.ifCond .eq 20, 3) := by decide +kernel
theorem dX3_odds_8 : decode cX3_odds 8 = .ok (.iload_n 2, 1) := by decide +kernel
theorem dX3_odds_9 : decode cX3_odds 9 = .ok (.ifCond .lt 16, 3) := by decide +kernel
theorem dX3_odds_12 : decode cX3_odds 12 = .ok (.iload_n 2, 1) := by decide +kernel
theorem dX3_odds_13 : decode cX3_odds 13 = .ok (.bipush 10, 2) := by decide +kernel
theorem dX3_odds_15 : decode cX3_odds 15 = .ok (.if_icmp .gt 10, 3) := by decide +kernel
theorem dX3_odds_18 : decode cX3_odds 18 = .ok (.iload_n 3, 1) := by decide +kernel
theorem dX3_odds_19 : decode cX3_odds 19 = .ok (.invokestatic 159, 3) := by decide +kernel
theorem dX3_odds_22 : decode cX3_odds 22 = .ok (.ifCond .ne 5, 3) := by decide +kernel
theorem dX3_odds_25 : decode cX3_odds 25 = .ok (.iconst (-1), 1) := by decide +kernel
theorem dX3_odds_26 : decode cX3_odds 26 = .ok (.ireturn, 1) := by decide +kernel
theorem dX3_odds_27 : decode cX3_odds 27 = .ok (.aload_n 0, 1) := by decide +kernel
theorem dX3_odds_28 : decode cX3_odds 28 = .ok (.iload_n 1, 1) := by decide +kernel
theorem dX3_odds_29 : decode cX3_odds 29 = .ok (.invokevirtual 114, 3) := by decide +kernel
theorem dX3_odds_32 : decode cX3_odds 32 = .ok (.ifCond .ne 13, 3) := by decide +kernel
theorem dX3_odds_35 : decode cX3_odds 35 = .ok (.iload_n 3, 1) := by decide +kernel
theorem dX3_odds_36 : decode cX3_odds 36 = .ok (.ifCond .ne 7, 3) := by decide +kernel
theorem dX3_odds_39 : decode cX3_odds 39 = .ok (.iconst 0, 1) := by decide +kernel
theorem dX3_odds_40 : decode cX3_odds 40 = .ok (.goto 4, 3) := by decide +kernel
theorem dX3_odds_43 : decode cX3_odds 43 = .ok (.iconst 1, 1) := by decide +kernel
theorem dX3_odds_44 : decode cX3_odds 44 = .ok (.ireturn, 1) := by decide +kernel
theorem dX3_odds_45 : decode cX3_odds 45 = .ok (.iload_n 3, 1) := by decide +kernel
theorem dX3_odds_46 : decode cX3_odds 46 = .ok (.ifCond .ne 10, 3) := by decide +kernel
theorem dX3_odds_49 : decode cX3_odds 49 = .ok (.bipush 10, 2) := by decide +kernel
theorem dX3_odds_51 : decode cX3_odds 51 = .ok (.iload_n 2, 1) := by decide +kernel
theorem dX3_odds_52 : decode cX3_odds 52 = .ok (.isub, 1) := by decide +kernel
theorem dX3_odds_53 : decode cX3_odds 53 = .ok (.goto 5, 3) := by decide +kernel
theorem dX3_odds_56 : decode cX3_odds 56 = .ok (.bipush 10, 2) := by decide +kernel
theorem dX3_odds_58 : decode cX3_odds 58 = .ok (.iload_n 2, 1) := by decide +kernel
theorem dX3_odds_59 : decode cX3_odds 59 = .ok (.invokestatic 180, 3) := by decide +kernel
theorem dX3_odds_62 : decode cX3_odds 62 = .ok (.istore 4, 2) := by decide +kernel
theorem dX3_odds_64 : decode cX3_odds 64 = .ok (.iconst 1, 1) := by decide +kernel
theorem dX3_odds_65 : decode cX3_odds 65 = .ok (.istore 5, 2) := by decide +kernel
theorem dX3_odds_67 : decode cX3_odds 67 = .ok (.aload_n 0, 1) := by decide +kernel
theorem dX3_odds_68 : decode cX3_odds 68 = .ok (.getfield 19, 3) := by decide +kernel
theorem dX3_odds_71 : decode cX3_odds 71 = .ok (.iload_n 1, 1) := by decide +kernel
theorem dX3_odds_72 : decode cX3_odds 72 = .ok (.invokevirtual 101, 3) := by decide +kernel
theorem dX3_odds_75 : decode cX3_odds 75 = .ok (.invokestatic 183, 3) := by decide +kernel
theorem dX3_odds_78 : decode cX3_odds 78 = .ok (.istore 6, 2) := by decide +kernel
theorem dX3_odds_80 : decode cX3_odds 80 = .ok (.iload 6, 2) := by decide +kernel
theorem dX3_odds_82 : decode cX3_odds 82 = .ok (.ifCond .le 16, 3) := by decide +kernel
theorem dX3_odds_85 : decode cX3_odds 85 = .ok (.iload 5, 2) := by decide +kernel
theorem dX3_odds_87 : decode cX3_odds 87 = .ok (.iload 4, 2) := by decide +kernel
theorem dX3_odds_89 : decode cX3_odds 89 = .ok (.imul, 1) := by decide +kernel
theorem dX3_odds_90 : decode cX3_odds 90 = .ok (.istore 5, 2) := by decide +kernel
theorem dX3_odds_92 : decode cX3_odds 92 = .ok (.iinc 6 (-1), 3) := by decide +kernel
theorem dX3_odds_95 : decode cX3_odds 95 = .ok (.goto (-15), 3) := by decide +kernel
theorem dX3_odds_98 : decode cX3_odds 98 = .ok (.iload 5, 2) := by decide +kernel
theorem dX3_odds_100 : decode cX3_odds 100 = .ok (.ireturn, 1) := by decide +kernel
theorem dX3_tells_0 : decode cX3_tells 0 = .ok (.aload_n 0, 1) := by decide +kernel
theorem dX3_tells_1 : decode cX3_tells 1 = .ok (.iload_n 1, 1) := by decide +kernel
theorem dX3_tells_2 : decode cX3_tells 2 = .ok (.invokevirtual 95, 3) := by decide +kernel
theorem dX3_tells_5 : decode cX3_tells 5 = .ok (.ifCond .eq 10, 3) := by decide +kernel
theorem dX3_tells_8 : decode cX3_tells 8 = .ok (.iload_n 2, 1) := by decide +kernel
theorem dX3_tells_9 : decode cX3_tells 9 = .ok (.invokestatic 159, 3) := by decide +kernel
theorem dX3_tells_12 : decode cX3_tells 12 = .ok (.ifCond .ne 5, 3) := by decide +kernel
theorem dX3_tells_15 : decode cX3_tells 15 = .ok (.iconst (-1), 1) := by decide +kernel
theorem dX3_tells_16 : decode cX3_tells 16 = .ok (.ireturn, 1) := by decide +kernel
theorem dX3_tells_17 : decode cX3_tells 17 = .ok (.aload_n 0, 1) := by decide +kernel
theorem dX3_tells_18 : decode cX3_tells 18 = .ok (.getfield 51, 3) := by decide +kernel
theorem dX3_tells_21 : decode cX3_tells 21 = .ok (.bipush 6, 2) := by decide +kernel
theorem dX3_tells_23 : decode cX3_tells 23 = .ok (.if_icmp .lt 6, 3) := by decide +kernel
theorem dX3_tells_26 : decode cX3_tells 26 = .ok (.bipush (-3), 2) := by decide +kernel
theorem dX3_tells_28 : decode cX3_tells 28 = .ok (.ireturn, 1) := by decide +kernel
theorem dX3_tells_29 : decode cX3_tells 29 = .ok (.aload_n 0, 1) := by decide +kernel
theorem dX3_tells_30 : decode cX3_tells 30 = .ok (.getfield 43, 3) := by decide +kernel
theorem dX3_tells_33 : decode cX3_tells 33 = .ok (.aload_n 0, 1) := by decide +kernel
theorem dX3_tells_34 : decode cX3_tells 34 = .ok (.getfield 51, 3) := by decide +kernel
theorem dX3_tells_37 : decode cX3_tells 37 = .ok (.aload_n 0, 1) := by decide +kernel
theorem dX3_tells_38 : decode cX3_tells 38 = .ok (.getfield 19, 3) := by decide +kernel
theorem dX3_tells_41 : decode cX3_tells 41 = .ok (.iload_n 1, 1) := by decide +kernel
theorem dX3_tells_42 : decode cX3_tells 42 = .ok (.invokevirtual 101, 3) := by decide +kernel
theorem dX3_tells_45 : decode cX3_tells 45 = .ok (.iastore, 1) := by decide +kernel
theorem dX3_tells_46 : decode cX3_tells 46 = .ok (.aload_n 0, 1) := by decide +kernel
theorem dX3_tells_47 : decode cX3_tells 47 = .ok (.getfield 47, 3) := by decide +kernel
theorem dX3_tells_50 : decode cX3_tells 50 = .ok (.aload_n 0, 1) := by decide +kernel
theorem dX3_tells_51 : decode cX3_tells 51 = .ok (.getfield 51, 3) := by decide +kernel
theorem dX3_tells_54 : decode cX3_tells 54 = .ok (.iload_n 2, 1) := by decide +kernel
theorem dX3_tells_55 : decode cX3_tells 55 = .ok (.iconst 1, 1) := by decide +kernel
theorem dX3_tells_56 : decode cX3_tells 56 = .ok (.if_icmp .ne 7, 3) := by decide +kernel
theorem dX3_tells_59 : decode cX3_tells 59 = .ok (.iconst 1, 1) := by decide +kernel
theorem dX3_tells_60 : decode cX3_tells 60 = .ok (.goto 4, 3) := by decide +kernel
theorem dX3_tells_63 : decode cX3_tells 63 = .ok (.iconst 0, 1) := by decide +kernel
theorem dX3_tells_64 : decode cX3_tells 64 = .ok (.bastore, 1) := by decide +kernel
theorem dX3_tells_65 : decode cX3_tells 65 = .ok (.aload_n 0, 1) := by decide +kernel
theorem dX3_tells_66 : decode cX3_tells 66 = .ok (.dup, 1) := by decide +kernel
theorem dX3_tells_67 : decode cX3_tells 67 = .ok (.getfield 51, 3) := by decide +kernel
theorem dX3_tells_70 : decode cX3_tells 70 = .ok (.iconst 1, 1) := by decide +kernel
theorem dX3_tells_71 : decode cX3_tells 71 = .ok (.iadd, 1) := by decide +kernel
theorem dX3_tells_72 : decode cX3_tells 72 = .ok (.putfield 51, 3) := by decide +kernel
theorem dX3_tells_75 : decode cX3_tells 75 = .ok (.aload_n 0, 1) := by decide +kernel
theorem dX3_tells_76 : decode cX3_tells 76 = .ok (.getfield 51, 3) := by decide +kernel
theorem dX3_tells_79 : decode cX3_tells 79 = .ok (.ireturn, 1) := by decide +kernel
theorem dX3_forget_0 : decode cX3_forget 0 = .ok (.aload_n 0, 1) := by decide +kernel
theorem dX3_forget_1 : decode cX3_forget 1 = .ok (.getfield 51, 3) := by decide +kernel
theorem dX3_forget_4 : decode cX3_forget 4 = .ok (.istore_n 1, 1) := by decide +kernel
theorem dX3_forget_5 : decode cX3_forget 5 = .ok (.aload_n 0, 1) := by decide +kernel
theorem dX3_forget_6 : decode cX3_forget 6 = .ok (.iconst 0, 1) := by decide +kernel
theorem dX3_forget_7 : decode cX3_forget 7 = .ok (.putfield 51, 3) := by decide +kernel
theorem dX3_forget_10 : decode cX3_forget 10 = .ok (.iload_n 1, 1) := by decide +kernel
theorem dX3_forget_11 : decode cX3_forget 11 = .ok (.ireturn, 1) := by decide +kernel
theorem dX3_fits_0 : decode cX3_fits 0 = .ok (.iload_n 1, 1) := by decide +kernel
theorem dX3_fits_1 : decode cX3_fits 1 = .ok (.iconst (-1), 1) := by decide +kernel
theorem dX3_fits_2 : decode cX3_fits 2 = .ok (.if_icmp .ne 8, 3) := by decide +kernel
theorem dX3_fits_5 : decode cX3_fits 5 = .ok (.aload_n 0, 1) := by decide +kernel
theorem dX3_fits_6 : decode cX3_fits 6 = .ok (.invokevirtual 188, 3) := by decide +kernel
theorem dX3_fits_9 : decode cX3_fits 9 = .ok (.ireturn, 1) := by decide +kernel
theorem dX3_fits_10 : decode cX3_fits 10 = .ok (.aload_n 0, 1) := by decide +kernel
theorem dX3_fits_11 : decode cX3_fits 11 = .ok (.iload_n 1, 1) := by decide +kernel
theorem dX3_fits_12 : decode cX3_fits 12 = .ok (.invokevirtual 76, 3) := by decide +kernel
theorem dX3_fits_15 : decode cX3_fits 15 = .ok (.ifCond .eq 11, 3) := by decide +kernel
theorem dX3_fits_18 : decode cX3_fits 18 = .ok (.aload_n 0, 1) := by decide +kernel
theorem dX3_fits_19 : decode cX3_fits 19 = .ok (.iload_n 1, 1) := by decide +kernel
theorem dX3_fits_20 : decode cX3_fits 20 = .ok (.invokevirtual 191, 3) := by decide +kernel
theorem dX3_fits_23 : decode cX3_fits 23 = .ok (.goto 4, 3) := by decide +kernel
theorem dX3_fits_26 : decode cX3_fits 26 = .ok (.iconst (-1), 1) := by decide +kernel
theorem dX3_fits_27 : decode cX3_fits 27 = .ok (.ireturn, 1) := by decide +kernel
theorem dX3_mark_0 : decode cX3_mark 0 = .ok (.aload_n 0, 1) := by decide +kernel
theorem dX3_mark_1 : decode cX3_mark 1 = .ok (.iload_n 2, 1) := by decide +kernel
theorem dX3_mark_2 : decode cX3_mark 2 = .ok (.invokevirtual 95, 3) := by decide +kernel
theorem dX3_mark_5 : decode cX3_mark 5 = .ok (.ifCond .ne 6, 3) := by decide +kernel
theorem dX3_mark_8 : decode cX3_mark 8 = .ok (.ldc 194, 2) := by decide +kernel
theorem dX3_mark_10 : decode cX3_mark 10 = .ok (.ireturn, 1) := by decide +kernel
theorem dX3_mark_11 : decode cX3_mark 11 = .ok (.iload_n 1, 1) := by decide +kernel
theorem dX3_mark_12 : decode cX3_mark 12 = .ok (.tableswitch 76 0 5 #[40, 46, 52, 58, 64, 70], 40) := by decide +kernel
theorem dX3_mark_52 : decode cX3_mark 52 = .ok (.aload_n 0, 1) := by decide +kernel
theorem dX3_mark_53 : decode cX3_mark 53 = .ok (.iload_n 2, 1) := by decide +kernel
theorem dX3_mark_54 : decode cX3_mark 54 = .ok (.invokevirtual 195, 3) := by decide +kernel
theorem dX3_mark_57 : decode cX3_mark 57 = .ok (.ireturn, 1) := by decide +kernel
theorem dX3_mark_58 : decode cX3_mark 58 = .ok (.aload_n 0, 1) := by decide +kernel
theorem dX3_mark_59 : decode cX3_mark 59 = .ok (.iload_n 2, 1) := by decide +kernel
theorem dX3_mark_60 : decode cX3_mark 60 = .ok (.invokevirtual 198, 3) := by decide +kernel
theorem dX3_mark_63 : decode cX3_mark 63 = .ok (.ireturn, 1) := by decide +kernel
theorem dX3_mark_64 : decode cX3_mark 64 = .ok (.aload_n 0, 1) := by decide +kernel
theorem dX3_mark_65 : decode cX3_mark 65 = .ok (.iload_n 2, 1) := by decide +kernel
theorem dX3_mark_66 : decode cX3_mark 66 = .ok (.invokevirtual 201, 3) := by decide +kernel
theorem dX3_mark_69 : decode cX3_mark 69 = .ok (.ireturn, 1) := by decide +kernel
theorem dX3_mark_70 : decode cX3_mark 70 = .ok (.aload_n 0, 1) := by decide +kernel
theorem dX3_mark_71 : decode cX3_mark 71 = .ok (.iload_n 2, 1) := by decide +kernel
theorem dX3_mark_72 : decode cX3_mark 72 = .ok (.invokevirtual 204, 3) := by decide +kernel
theorem dX3_mark_75 : decode cX3_mark 75 = .ok (.ireturn, 1) := by decide +kernel
theorem dX3_mark_76 : decode cX3_mark 76 = .ok (.aload_n 0, 1) := by decide +kernel
theorem dX3_mark_77 : decode cX3_mark 77 = .ok (.iload_n 2, 1) := by decide +kernel
theorem dX3_mark_78 : decode cX3_mark 78 = .ok (.invokevirtual 207, 3) := by decide +kernel
theorem dX3_mark_81 : decode cX3_mark 81 = .ok (.ireturn, 1) := by decide +kernel
theorem dX3_mark_82 : decode cX3_mark 82 = .ok (.aload_n 0, 1) := by decide +kernel
theorem dX3_mark_83 : decode cX3_mark 83 = .ok (.iload_n 2, 1) := by decide +kernel
theorem dX3_mark_84 : decode cX3_mark 84 = .ok (.invokevirtual 210, 3) := by decide +kernel
theorem dX3_mark_87 : decode cX3_mark 87 = .ok (.ireturn, 1) := by decide +kernel
theorem dX3_mark_88 : decode cX3_mark 88 = .ok (.ldc 194, 2) := by decide +kernel
theorem dX3_mark_90 : decode cX3_mark 90 = .ok (.ireturn, 1) := by decide +kernel
theorem dX3_keep_0 : decode cX3_keep 0 = .ok (.iload_n 1, 1) := by decide +kernel
theorem dX3_keep_1 : decode cX3_keep 1 = .ok (.invokestatic 159, 3) := by decide +kernel
theorem dX3_keep_4 : decode cX3_keep 4 = .ok (.ifCond .ne 5, 3) := by decide +kernel
theorem dX3_keep_7 : decode cX3_keep 7 = .ok (.iconst (-1), 1) := by decide +kernel
theorem dX3_keep_8 : decode cX3_keep 8 = .ok (.ireturn, 1) := by decide +kernel
theorem dX3_keep_9 : decode cX3_keep 9 = .ok (.aload_n 0, 1) := by decide +kernel
theorem dX3_keep_10 : decode cX3_keep 10 = .ok (.iload_n 1, 1) := by decide +kernel
theorem dX3_keep_11 : decode cX3_keep 11 = .ok (.invokevirtual 213, 3) := by decide +kernel
theorem dX3_keep_14 : decode cX3_keep 14 = .ok (.aload_n 0, 1) := by decide +kernel
theorem dX3_keep_15 : decode cX3_keep 15 = .ok (.getfield 29, 3) := by decide +kernel
theorem dX3_keep_18 : decode cX3_keep 18 = .ok (.invokevirtual 217, 3) := by decide +kernel
theorem dX3_keep_21 : decode cX3_keep 21 = .ok (.aload_n 0, 1) := by decide +kernel
theorem dX3_keep_22 : decode cX3_keep 22 = .ok (.dup, 1) := by decide +kernel
theorem dX3_keep_23 : decode cX3_keep 23 = .ok (.getfield 39, 3) := by decide +kernel
theorem dX3_keep_26 : decode cX3_keep 26 = .ok (.iconst 1, 1) := by decide +kernel
theorem dX3_keep_27 : decode cX3_keep 27 = .ok (.iload_n 1, 1) := by decide +kernel
theorem dX3_keep_28 : decode cX3_keep 28 = .ok (.ishl, 1) := by decide +kernel
theorem dX3_keep_29 : decode cX3_keep 29 = .ok (.ior, 1) := by decide +kernel
theorem dX3_keep_30 : decode cX3_keep 30 = .ok (.putfield 39, 3) := by decide +kernel
theorem dX3_keep_33 : decode cX3_keep 33 = .ok (.aload_n 0, 1) := by decide +kernel
theorem dX3_keep_34 : decode cX3_keep 34 = .ok (.getfield 29, 3) := by decide +kernel
theorem dX3_keep_37 : decode cX3_keep 37 = .ok (.getfield 142, 3) := by decide +kernel
theorem dX3_keep_40 : decode cX3_keep 40 = .ok (.ireturn, 1) := by decide +kernel
theorem dX3_back_0 : decode cX3_back 0 = .ok (.iload_n 1, 1) := by decide +kernel
theorem dX3_back_1 : decode cX3_back 1 = .ok (.invokestatic 159, 3) := by decide +kernel
theorem dX3_back_4 : decode cX3_back 4 = .ok (.ifCond .ne 5, 3) := by decide +kernel
theorem dX3_back_7 : decode cX3_back 7 = .ok (.iconst (-1), 1) := by decide +kernel
theorem dX3_back_8 : decode cX3_back 8 = .ok (.ireturn, 1) := by decide +kernel
theorem dX3_back_9 : decode cX3_back 9 = .ok (.aload_n 0, 1) := by decide +kernel
theorem dX3_back_10 : decode cX3_back 10 = .ok (.getfield 39, 3) := by decide +kernel
theorem dX3_back_13 : decode cX3_back 13 = .ok (.iload_n 1, 1) := by decide +kernel
theorem dX3_back_14 : decode cX3_back 14 = .ok (.invokestatic 221, 3) := by decide +kernel
theorem dX3_back_17 : decode cX3_back 17 = .ok (.ifCond .ne 6, 3) := by decide +kernel
theorem dX3_back_20 : decode cX3_back 20 = .ok (.bipush (-2), 2) := by decide +kernel
theorem dX3_back_22 : decode cX3_back 22 = .ok (.ireturn, 1) := by decide +kernel
theorem dX3_back_23 : decode cX3_back 23 = .ok (.aload_n 0, 1) := by decide +kernel
theorem dX3_back_24 : decode cX3_back 24 = .ok (.getfield 29, 3) := by decide +kernel
theorem dX3_back_27 : decode cX3_back 27 = .ok (.aload_n 0, 1) := by decide +kernel
theorem dX3_back_28 : decode cX3_back 28 = .ok (.iload_n 1, 1) := by decide +kernel
theorem dX3_back_29 : decode cX3_back 29 = .ok (.invokevirtual 213, 3) := by decide +kernel
theorem dX3_back_32 : decode cX3_back 32 = .ok (.invokevirtual 217, 3) := by decide +kernel
theorem dX3_back_35 : decode cX3_back 35 = .ok (.aload_n 0, 1) := by decide +kernel
theorem dX3_back_36 : decode cX3_back 36 = .ok (.getfield 29, 3) := by decide +kernel
theorem dX3_back_39 : decode cX3_back 39 = .ok (.getfield 142, 3) := by decide +kernel
theorem dX3_back_42 : decode cX3_back 42 = .ok (.ireturn, 1) := by decide +kernel
theorem dX3_count_0 : decode cX3_count 0 = .ok (.iload_n 1, 1) := by decide +kernel
theorem dX3_count_1 : decode cX3_count 1 = .ok (.tableswitch 72 0 4 #[35, 43, 51, 56, 64], 35) := by decide +kernel
theorem dX3_count_36 : decode cX3_count 36 = .ok (.aload_n 0, 1) := by decide +kernel
theorem dX3_count_37 : decode cX3_count 37 = .ok (.getfield 19, 3) := by decide +kernel
theorem dX3_count_40 : decode cX3_count 40 = .ok (.getfield 123, 3) := by decide +kernel
theorem dX3_count_43 : decode cX3_count 43 = .ok (.ireturn, 1) := by decide +kernel
theorem dX3_count_44 : decode cX3_count 44 = .ok (.aload_n 0, 1) := by decide +kernel
theorem dX3_count_45 : decode cX3_count 45 = .ok (.getfield 19, 3) := by decide +kernel
theorem dX3_count_48 : decode cX3_count 48 = .ok (.getfield 162, 3) := by decide +kernel
theorem dX3_count_51 : decode cX3_count 51 = .ok (.ireturn, 1) := by decide +kernel
theorem dX3_count_52 : decode cX3_count 52 = .ok (.aload_n 0, 1) := by decide +kernel
theorem dX3_count_53 : decode cX3_count 53 = .ok (.getfield 51, 3) := by decide +kernel
theorem dX3_count_56 : decode cX3_count 56 = .ok (.ireturn, 1) := by decide +kernel
theorem dX3_count_57 : decode cX3_count 57 = .ok (.aload_n 0, 1) := by decide +kernel
theorem dX3_count_58 : decode cX3_count 58 = .ok (.getfield 29, 3) := by decide +kernel
theorem dX3_count_61 : decode cX3_count 61 = .ok (.getfield 149, 3) := by decide +kernel
theorem dX3_count_64 : decode cX3_count 64 = .ok (.ireturn, 1) := by decide +kernel
theorem dX3_count_65 : decode cX3_count 65 = .ok (.aload_n 0, 1) := by decide +kernel
theorem dX3_count_66 : decode cX3_count 66 = .ok (.getfield 10, 3) := by decide +kernel
theorem dX3_count_69 : decode cX3_count 69 = .ok (.getfield 62, 3) := by decide +kernel
theorem dX3_count_72 : decode cX3_count 72 = .ok (.ireturn, 1) := by decide +kernel
theorem dX3_count_73 : decode cX3_count 73 = .ok (.iconst (-1), 1) := by decide +kernel
theorem dX3_count_74 : decode cX3_count 74 = .ok (.ireturn, 1) := by decide +kernel
theorem dX3_trace_0 : decode cX3_trace 0 = .ok (.aload_n 0, 1) := by decide +kernel
theorem dX3_trace_1 : decode cX3_trace 1 = .ok (.getfield 54, 3) := by decide +kernel
theorem dX3_trace_4 : decode cX3_trace 4 = .ok (.lreturn, 1) := by decide +kernel
theorem dX3_isDecanter_0 : decode cX3_isDecanter 0 = .ok (.iload_n 1, 1) := by decide +kernel
theorem dX3_isDecanter_1 : decode cX3_isDecanter 1 = .ok (.ifCond .lt 18, 3) := by decide +kernel
theorem dX3_isDecanter_4 : decode cX3_isDecanter 4 = .ok (.iload_n 1, 1) := by decide +kernel
theorem dX3_isDecanter_5 : decode cX3_isDecanter 5 = .ok (.aload_n 0, 1) := by decide +kernel
theorem dX3_isDecanter_6 : decode cX3_isDecanter 6 = .ok (.getfield 19, 3) := by decide +kernel
theorem dX3_isDecanter_9 : decode cX3_isDecanter 9 = .ok (.getfield 123, 3) := by decide +kernel
theorem dX3_isDecanter_12 : decode cX3_isDecanter 12 = .ok (.if_icmp .ge 7, 3) := by decide +kernel
theorem dX3_isDecanter_15 : decode cX3_isDecanter 15 = .ok (.iconst 1, 1) := by decide +kernel
theorem dX3_isDecanter_16 : decode cX3_isDecanter 16 = .ok (.goto 4, 3) := by decide +kernel
theorem dX3_isDecanter_19 : decode cX3_isDecanter 19 = .ok (.iconst 0, 1) := by decide +kernel
theorem dX3_isDecanter_20 : decode cX3_isDecanter 20 = .ok (.ireturn, 1) := by decide +kernel
theorem dX3_isAct_0 : decode cX3_isAct 0 = .ok (.iload_n 1, 1) := by decide +kernel
theorem dX3_isAct_1 : decode cX3_isAct 1 = .ok (.ifCond .lt 18, 3) := by decide +kernel
theorem dX3_isAct_4 : decode cX3_isAct 4 = .ok (.iload_n 1, 1) := by decide +kernel
theorem dX3_isAct_5 : decode cX3_isAct 5 = .ok (.aload_n 0, 1) := by decide +kernel
theorem dX3_isAct_6 : decode cX3_isAct 6 = .ok (.getfield 19, 3) := by decide +kernel
theorem dX3_isAct_9 : decode cX3_isAct 9 = .ok (.getfield 162, 3) := by decide +kernel
theorem dX3_isAct_12 : decode cX3_isAct 12 = .ok (.if_icmp .ge 7, 3) := by decide +kernel
theorem dX3_isAct_15 : decode cX3_isAct 15 = .ok (.iconst 1, 1) := by decide +kernel
theorem dX3_isAct_16 : decode cX3_isAct 16 = .ok (.goto 4, 3) := by decide +kernel
theorem dX3_isAct_19 : decode cX3_isAct 19 = .ok (.iconst 0, 1) := by decide +kernel
theorem dX3_isAct_20 : decode cX3_isAct 20 = .ok (.ireturn, 1) := by decide +kernel
theorem dX3_isDone_0 : decode cX3_isDone 0 = .ok (.aload_n 0, 1) := by decide +kernel
theorem dX3_isDone_1 : decode cX3_isDone 1 = .ok (.getfield 29, 3) := by decide +kernel
theorem dX3_isDone_4 : decode cX3_isDone 4 = .ok (.getfield 133, 3) := by decide +kernel
theorem dX3_isDone_7 : decode cX3_isDone 7 = .ok (.iload_n 1, 1) := by decide +kernel
theorem dX3_isDone_8 : decode cX3_isDone 8 = .ok (.invokestatic 221, 3) := by decide +kernel
theorem dX3_isDone_11 : decode cX3_isDone 11 = .ok (.ireturn, 1) := by decide +kernel
theorem dX3_has_0 : decode cX3_has 0 = .ok (.iload_n 0, 1) := by decide +kernel
theorem dX3_has_1 : decode cX3_has 1 = .ok (.iload_n 1, 1) := by decide +kernel
theorem dX3_has_2 : decode cX3_has 2 = .ok (.ishr, 1) := by decide +kernel
theorem dX3_has_3 : decode cX3_has 3 = .ok (.iconst 1, 1) := by decide +kernel
theorem dX3_has_4 : decode cX3_has 4 = .ok (.iand, 1) := by decide +kernel
theorem dX3_has_5 : decode cX3_has 5 = .ok (.iconst 1, 1) := by decide +kernel
theorem dX3_has_6 : decode cX3_has 6 = .ok (.if_icmp .ne 7, 3) := by decide +kernel
theorem dX3_has_9 : decode cX3_has 9 = .ok (.iconst 1, 1) := by decide +kernel
theorem dX3_has_10 : decode cX3_has 10 = .ok (.goto 4, 3) := by decide +kernel
theorem dX3_has_13 : decode cX3_has 13 = .ok (.iconst 0, 1) := by decide +kernel
theorem dX3_has_14 : decode cX3_has 14 = .ok (.ireturn, 1) := by decide +kernel
theorem dX3_isNoughtOrOne_0 : decode cX3_isNoughtOrOne 0 = .ok (.iload_n 0, 1) := by decide +kernel
theorem dX3_isNoughtOrOne_1 : decode cX3_isNoughtOrOne 1 = .ok (.ifCond .eq 8, 3) := by decide +kernel
theorem dX3_isNoughtOrOne_4 : decode cX3_isNoughtOrOne 4 = .ok (.iload_n 0, 1) := by decide +kernel
theorem dX3_isNoughtOrOne_5 : decode cX3_isNoughtOrOne 5 = .ok (.iconst 1, 1) := by decide +kernel
theorem dX3_isNoughtOrOne_6 : decode cX3_isNoughtOrOne 6 = .ok (.if_icmp .ne 7, 3) := by decide +kernel
theorem dX3_isNoughtOrOne_9 : decode cX3_isNoughtOrOne 9 = .ok (.iconst 1, 1) := by decide +kernel
theorem dX3_isNoughtOrOne_10 : decode cX3_isNoughtOrOne 10 = .ok (.goto 4, 3) := by decide +kernel
theorem dX3_isNoughtOrOne_13 : decode cX3_isNoughtOrOne 13 = .ok (.iconst 0, 1) := by decide +kernel
theorem dX3_isNoughtOrOne_14 : decode cX3_isNoughtOrOne 14 = .ok (.ireturn, 1) := by decide +kernel
theorem dX3_imageOf_0 : decode cX3_imageOf 0 = .ok (.iload_n 1, 1) := by decide +kernel
theorem dX3_imageOf_1 : decode cX3_imageOf 1 = .ok (.ifCond .ne 10, 3) := by decide +kernel
theorem dX3_imageOf_4 : decode cX3_imageOf 4 = .ok (.aload_n 0, 1) := by decide +kernel
theorem dX3_imageOf_5 : decode cX3_imageOf 5 = .ok (.getfield 33, 3) := by decide +kernel
theorem dX3_imageOf_8 : decode cX3_imageOf 8 = .ok (.goto 7, 3) := by decide +kernel
theorem dX3_imageOf_11 : decode cX3_imageOf 11 = .ok (.aload_n 0, 1) := by decide +kernel
theorem dX3_imageOf_12 : decode cX3_imageOf 12 = .ok (.getfield 36, 3) := by decide +kernel
theorem dX3_imageOf_15 : decode cX3_imageOf 15 = .ok (.areturn, 1) := by decide +kernel
theorem dX3_dropsFrom_0 : decode cX3_dropsFrom 0 = .ok (.aload_n 0, 1) := by decide +kernel
theorem dX3_dropsFrom_1 : decode cX3_dropsFrom 1 = .ok (.getfield 19, 3) := by decide +kernel
theorem dX3_dropsFrom_4 : decode cX3_dropsFrom 4 = .ok (.iload_n 2, 1) := by decide +kernel
theorem dX3_dropsFrom_5 : decode cX3_dropsFrom 5 = .ok (.aload_n 0, 1) := by decide +kernel
theorem dX3_dropsFrom_6 : decode cX3_dropsFrom 6 = .ok (.getfield 29, 3) := by decide +kernel
theorem dX3_dropsFrom_9 : decode cX3_dropsFrom 9 = .ok (.getfield 88, 3) := by decide +kernel
theorem dX3_dropsFrom_12 : decode cX3_dropsFrom 12 = .ok (.iload_n 1, 1) := by decide +kernel
theorem dX3_dropsFrom_13 : decode cX3_dropsFrom 13 = .ok (.iaload, 1) := by decide +kernel
theorem dX3_dropsFrom_14 : decode cX3_dropsFrom 14 = .ok (.invokevirtual 110, 3) := by decide +kernel
theorem dX3_dropsFrom_17 : decode cX3_dropsFrom 17 = .ok (.ireturn, 1) := by decide +kernel
theorem dX3_isEnoughFor_0 : decode cX3_isEnoughFor 0 = .ok (.aload_n 0, 1) := by decide +kernel
theorem dX3_isEnoughFor_1 : decode cX3_isEnoughFor 1 = .ok (.iconst 1, 1) := by decide +kernel
theorem dX3_isEnoughFor_2 : decode cX3_isEnoughFor 2 = .ok (.iload_n 1, 1) := by decide +kernel
theorem dX3_isEnoughFor_3 : decode cX3_isEnoughFor 3 = .ok (.ishl, 1) := by decide +kernel
theorem dX3_isEnoughFor_4 : decode cX3_isEnoughFor 4 = .ok (.invokevirtual 168, 3) := by decide +kernel
theorem dX3_isEnoughFor_7 : decode cX3_isEnoughFor 7 = .ok (.ireturn, 1) := by decide +kernel
theorem dX3_isEnoughForAll_0 : decode cX3_isEnoughForAll 0 = .ok (.iconst 0, 1) := by decide +kernel
theorem dX3_isEnoughForAll_1 : decode cX3_isEnoughForAll 1 = .ok (.istore_n 2, 1) := by decide +kernel
theorem dX3_isEnoughForAll_2 : decode cX3_isEnoughForAll 2 = .ok (.iload_n 2, 1) := by decide +kernel
theorem dX3_isEnoughForAll_3 : decode cX3_isEnoughForAll 3 = .ok (.aload_n 0, 1) := by decide +kernel
theorem dX3_isEnoughForAll_4 : decode cX3_isEnoughForAll 4 = .ok (.getfield 19, 3) := by decide +kernel
theorem dX3_isEnoughForAll_7 : decode cX3_isEnoughForAll 7 = .ok (.getfield 123, 3) := by decide +kernel
theorem dX3_isEnoughForAll_10 : decode cX3_isEnoughForAll 10 = .ok (.if_icmp .ge 66, 3) := by decide +kernel
theorem dX3_isEnoughForAll_13 : decode cX3_isEnoughForAll 13 = .ok (.iconst 0, 1) := by decide +kernel
theorem dX3_isEnoughForAll_14 : decode cX3_isEnoughForAll 14 = .ok (.istore_n 3, 1) := by decide +kernel
theorem dX3_isEnoughForAll_15 : decode cX3_isEnoughForAll 15 = .ok (.iconst 0, 1) := by decide +kernel
theorem dX3_isEnoughForAll_16 : decode cX3_isEnoughForAll 16 = .ok (.istore 4, 2) := by decide +kernel
theorem dX3_isEnoughForAll_18 : decode cX3_isEnoughForAll 18 = .ok (.iload 4, 2) := by decide +kernel
theorem dX3_isEnoughForAll_20 : decode cX3_isEnoughForAll 20 = .ok (.aload_n 0, 1) := by decide +kernel
theorem dX3_isEnoughForAll_21 : decode cX3_isEnoughForAll 21 = .ok (.getfield 19, 3) := by decide +kernel
theorem dX3_isEnoughForAll_24 : decode cX3_isEnoughForAll 24 = .ok (.getfield 162, 3) := by decide +kernel
theorem dX3_isEnoughForAll_27 : decode cX3_isEnoughForAll 27 = .ok (.if_icmp .ge 28, 3) := by decide +kernel
theorem dX3_isEnoughForAll_30 : decode cX3_isEnoughForAll 30 = .ok (.iload_n 1, 1) := by decide +kernel
theorem dX3_isEnoughForAll_31 : decode cX3_isEnoughForAll 31 = .ok (.iload 4, 2) := by decide +kernel
theorem dX3_isEnoughForAll_33 : decode cX3_isEnoughForAll 33 = .ok (.invokestatic 221, 3) := by decide +kernel
theorem dX3_isEnoughForAll_36 : decode cX3_isEnoughForAll 36 = .ok (.ifCond .eq 13, 3) := by decide +kernel
theorem dX3_isEnoughForAll_39 : decode cX3_isEnoughForAll 39 = .ok (.iload_n 3, 1) := by decide +kernel
theorem dX3_isEnoughForAll_40 : decode cX3_isEnoughForAll 40 = .ok (.aload_n 0, 1) := by decide +kernel
theorem dX3_isEnoughForAll_41 : decode cX3_isEnoughForAll 41 = .ok (.iload_n 2, 1) := by decide +kernel
theorem dX3_isEnoughForAll_42 : decode cX3_isEnoughForAll 42 = .ok (.iload 4, 2) := by decide +kernel
theorem dX3_isEnoughForAll_44 : decode cX3_isEnoughForAll 44 = .ok (.invokevirtual 126, 3) := by decide +kernel
theorem dX3_isEnoughForAll_47 : decode cX3_isEnoughForAll 47 = .ok (.iadd, 1) := by decide +kernel
theorem dX3_isEnoughForAll_48 : decode cX3_isEnoughForAll 48 = .ok (.istore_n 3, 1) := by decide +kernel
theorem dX3_isEnoughForAll_49 : decode cX3_isEnoughForAll 49 = .ok (.iinc 4 1, 3) := by decide +kernel
theorem dX3_isEnoughForAll_52 : decode cX3_isEnoughForAll 52 = .ok (.goto (-34), 3) := by decide +kernel
theorem dX3_isEnoughForAll_55 : decode cX3_isEnoughForAll 55 = .ok (.iload_n 3, 1) := by decide +kernel
theorem dX3_isEnoughForAll_56 : decode cX3_isEnoughForAll 56 = .ok (.aload_n 0, 1) := by decide +kernel
theorem dX3_isEnoughForAll_57 : decode cX3_isEnoughForAll 57 = .ok (.getfield 29, 3) := by decide +kernel
theorem dX3_isEnoughForAll_60 : decode cX3_isEnoughForAll 60 = .ok (.getfield 79, 3) := by decide +kernel
theorem dX3_isEnoughForAll_63 : decode cX3_isEnoughForAll 63 = .ok (.iload_n 2, 1) := by decide +kernel
theorem dX3_isEnoughForAll_64 : decode cX3_isEnoughForAll 64 = .ok (.iaload, 1) := by decide +kernel
theorem dX3_isEnoughForAll_65 : decode cX3_isEnoughForAll 65 = .ok (.if_icmp .le 5, 3) := by decide +kernel
theorem dX3_isEnoughForAll_68 : decode cX3_isEnoughForAll 68 = .ok (.iconst 0, 1) := by decide +kernel
theorem dX3_isEnoughForAll_69 : decode cX3_isEnoughForAll 69 = .ok (.ireturn, 1) := by decide +kernel
theorem dX3_isEnoughForAll_70 : decode cX3_isEnoughForAll 70 = .ok (.iinc 2 1, 3) := by decide +kernel
theorem dX3_isEnoughForAll_73 : decode cX3_isEnoughForAll 73 = .ok (.goto (-71), 3) := by decide +kernel
theorem dX3_isEnoughForAll_76 : decode cX3_isEnoughForAll 76 = .ok (.iconst 1, 1) := by decide +kernel
theorem dX3_isEnoughForAll_77 : decode cX3_isEnoughForAll 77 = .ok (.ireturn, 1) := by decide +kernel
theorem dX3_wouldGoWell_0 : decode cX3_wouldGoWell 0 = .ok (.iconst 0, 1) := by decide +kernel
theorem dX3_wouldGoWell_1 : decode cX3_wouldGoWell 1 = .ok (.istore_n 2, 1) := by decide +kernel
theorem dX3_wouldGoWell_2 : decode cX3_wouldGoWell 2 = .ok (.iload_n 2, 1) := by decide +kernel
theorem dX3_wouldGoWell_3 : decode cX3_wouldGoWell 3 = .ok (.aload_n 0, 1) := by decide +kernel
theorem dX3_wouldGoWell_4 : decode cX3_wouldGoWell 4 = .ok (.getfield 19, 3) := by decide +kernel
theorem dX3_wouldGoWell_7 : decode cX3_wouldGoWell 7 = .ok (.getfield 123, 3) := by decide +kernel
theorem dX3_wouldGoWell_10 : decode cX3_wouldGoWell 10 = .ok (.if_icmp .ge 45, 3) := by decide +kernel
theorem dX3_wouldGoWell_13 : decode cX3_wouldGoWell 13 = .ok (.aload_n 0, 1) := by decide +kernel
theorem dX3_wouldGoWell_14 : decode cX3_wouldGoWell 14 = .ok (.iload_n 2, 1) := by decide +kernel
theorem dX3_wouldGoWell_15 : decode cX3_wouldGoWell 15 = .ok (.iload_n 1, 1) := by decide +kernel
theorem dX3_wouldGoWell_16 : decode cX3_wouldGoWell 16 = .ok (.invokevirtual 126, 3) := by decide +kernel
theorem dX3_wouldGoWell_19 : decode cX3_wouldGoWell 19 = .ok (.ifCond .le 30, 3) := by decide +kernel
theorem dX3_wouldGoWell_22 : decode cX3_wouldGoWell 22 = .ok (.aload_n 0, 1) := by decide +kernel
theorem dX3_wouldGoWell_23 : decode cX3_wouldGoWell 23 = .ok (.getfield 29, 3) := by decide +kernel
theorem dX3_wouldGoWell_26 : decode cX3_wouldGoWell 26 = .ok (.getfield 88, 3) := by decide +kernel
theorem dX3_wouldGoWell_29 : decode cX3_wouldGoWell 29 = .ok (.iload_n 2, 1) := by decide +kernel
theorem dX3_wouldGoWell_30 : decode cX3_wouldGoWell 30 = .ok (.iaload, 1) := by decide +kernel
theorem dX3_wouldGoWell_31 : decode cX3_wouldGoWell 31 = .ok (.iload_n 2, 1) := by decide +kernel
theorem dX3_wouldGoWell_32 : decode cX3_wouldGoWell 32 = .ok (.if_icmp .ne 15, 3) := by decide +kernel
theorem dX3_wouldGoWell_35 : decode cX3_wouldGoWell 35 = .ok (.aload_n 0, 1) := by decide +kernel
theorem dX3_wouldGoWell_36 : decode cX3_wouldGoWell 36 = .ok (.getfield 29, 3) := by decide +kernel
theorem dX3_wouldGoWell_39 : decode cX3_wouldGoWell 39 = .ok (.getfield 85, 3) := by decide +kernel
theorem dX3_wouldGoWell_42 : decode cX3_wouldGoWell 42 = .ok (.iload_n 2, 1) := by decide +kernel
theorem dX3_wouldGoWell_43 : decode cX3_wouldGoWell 43 = .ok (.iaload, 1) := by decide +kernel
theorem dX3_wouldGoWell_44 : decode cX3_wouldGoWell 44 = .ok (.ifCond .le 5, 3) := by decide +kernel
theorem dX3_wouldGoWell_47 : decode cX3_wouldGoWell 47 = .ok (.iconst 0, 1) := by decide +kernel
theorem dX3_wouldGoWell_48 : decode cX3_wouldGoWell 48 = .ok (.ireturn, 1) := by decide +kernel
theorem dX3_wouldGoWell_49 : decode cX3_wouldGoWell 49 = .ok (.iinc 2 1, 3) := by decide +kernel
theorem dX3_wouldGoWell_52 : decode cX3_wouldGoWell 52 = .ok (.goto (-50), 3) := by decide +kernel
theorem dX3_wouldGoWell_55 : decode cX3_wouldGoWell 55 = .ok (.iconst 1, 1) := by decide +kernel
theorem dX3_wouldGoWell_56 : decode cX3_wouldGoWell 56 = .ok (.ireturn, 1) := by decide +kernel
theorem dX3_actsThatCan_0 : decode cX3_actsThatCan 0 = .ok (.iconst 0, 1) := by decide +kernel
theorem dX3_actsThatCan_1 : decode cX3_actsThatCan 1 = .ok (.istore_n 1, 1) := by decide +kernel
theorem dX3_actsThatCan_2 : decode cX3_actsThatCan 2 = .ok (.iconst 0, 1) := by decide +kernel
theorem dX3_actsThatCan_3 : decode cX3_actsThatCan 3 = .ok (.istore_n 2, 1) := by decide +kernel
theorem dX3_actsThatCan_4 : decode cX3_actsThatCan 4 = .ok (.iload_n 2, 1) := by decide +kernel
theorem dX3_actsThatCan_5 : decode cX3_actsThatCan 5 = .ok (.aload_n 0, 1) := by decide +kernel
theorem dX3_actsThatCan_6 : decode cX3_actsThatCan 6 = .ok (.getfield 19, 3) := by decide +kernel
theorem dX3_actsThatCan_9 : decode cX3_actsThatCan 9 = .ok (.getfield 162, 3) := by decide +kernel
theorem dX3_actsThatCan_12 : decode cX3_actsThatCan 12 = .ok (.if_icmp .ge 31, 3) := by decide +kernel
theorem dX3_actsThatCan_15 : decode cX3_actsThatCan 15 = .ok (.aload_n 0, 1) := by decide +kernel
theorem dX3_actsThatCan_16 : decode cX3_actsThatCan 16 = .ok (.iload_n 2, 1) := by decide +kernel
theorem dX3_actsThatCan_17 : decode cX3_actsThatCan 17 = .ok (.invokevirtual 104, 3) := by decide +kernel
theorem dX3_actsThatCan_20 : decode cX3_actsThatCan 20 = .ok (.ifCond .ne 17, 3) := by decide +kernel
theorem dX3_actsThatCan_23 : decode cX3_actsThatCan 23 = .ok (.aload_n 0, 1) := by decide +kernel
theorem dX3_actsThatCan_24 : decode cX3_actsThatCan 24 = .ok (.iload_n 2, 1) := by decide +kernel
theorem dX3_actsThatCan_25 : decode cX3_actsThatCan 25 = .ok (.invokevirtual 114, 3) := by decide +kernel
theorem dX3_actsThatCan_28 : decode cX3_actsThatCan 28 = .ok (.ifCond .eq 9, 3) := by decide +kernel
theorem dX3_actsThatCan_31 : decode cX3_actsThatCan 31 = .ok (.iload_n 1, 1) := by decide +kernel
theorem dX3_actsThatCan_32 : decode cX3_actsThatCan 32 = .ok (.iconst 1, 1) := by decide +kernel
theorem dX3_actsThatCan_33 : decode cX3_actsThatCan 33 = .ok (.iload_n 2, 1) := by decide +kernel
theorem dX3_actsThatCan_34 : decode cX3_actsThatCan 34 = .ok (.ishl, 1) := by decide +kernel
theorem dX3_actsThatCan_35 : decode cX3_actsThatCan 35 = .ok (.ior, 1) := by decide +kernel
theorem dX3_actsThatCan_36 : decode cX3_actsThatCan 36 = .ok (.istore_n 1, 1) := by decide +kernel
theorem dX3_actsThatCan_37 : decode cX3_actsThatCan 37 = .ok (.iinc 2 1, 3) := by decide +kernel
theorem dX3_actsThatCan_40 : decode cX3_actsThatCan 40 = .ok (.goto (-36), 3) := by decide +kernel
theorem dX3_actsThatCan_43 : decode cX3_actsThatCan 43 = .ok (.iload_n 1, 1) := by decide +kernel
theorem dX3_actsThatCan_44 : decode cX3_actsThatCan 44 = .ok (.ireturn, 1) := by decide +kernel
theorem dX3_span_0 : decode cX3_span 0 = .ok (.aload_n 0, 1) := by decide +kernel
theorem dX3_span_1 : decode cX3_span 1 = .ok (.getfield 29, 3) := by decide +kernel
theorem dX3_span_4 : decode cX3_span 4 = .ok (.getfield 79, 3) := by decide +kernel
theorem dX3_span_7 : decode cX3_span 7 = .ok (.iload_n 1, 1) := by decide +kernel
theorem dX3_span_8 : decode cX3_span 8 = .ok (.iaload, 1) := by decide +kernel
theorem dX3_span_9 : decode cX3_span 9 = .ok (.istore_n 2, 1) := by decide +kernel
theorem dX3_span_10 : decode cX3_span 10 = .ok (.aload_n 0, 1) := by decide +kernel
theorem dX3_span_11 : decode cX3_span 11 = .ok (.getfield 19, 3) := by decide +kernel
theorem dX3_span_14 : decode cX3_span 14 = .ok (.getfield 82, 3) := by decide +kernel
theorem dX3_span_17 : decode cX3_span 17 = .ok (.iload_n 1, 1) := by decide +kernel
theorem dX3_span_18 : decode cX3_span 18 = .ok (.iaload, 1) := by decide +kernel
theorem dX3_span_19 : decode cX3_span 19 = .ok (.istore_n 3, 1) := by decide +kernel
theorem dX3_span_20 : decode cX3_span 20 = .ok (.iload_n 2, 1) := by decide +kernel
theorem dX3_span_21 : decode cX3_span 21 = .ok (.ifCond .ne 5, 3) := by decide +kernel
theorem dX3_span_24 : decode cX3_span 24 = .ok (.iconst 0, 1) := by decide +kernel
theorem dX3_span_25 : decode cX3_span 25 = .ok (.ireturn, 1) := by decide +kernel
theorem dX3_span_26 : decode cX3_span 26 = .ok (.iload_n 3, 1) := by decide +kernel
theorem dX3_span_27 : decode cX3_span 27 = .ok (.ifCond .le 13, 3) := by decide +kernel
theorem dX3_span_30 : decode cX3_span 30 = .ok (.iload_n 2, 1) := by decide +kernel
theorem dX3_span_31 : decode cX3_span 31 = .ok (.iload_n 3, 1) := by decide +kernel
theorem dX3_span_32 : decode cX3_span 32 = .ok (.iadd, 1) := by decide +kernel
theorem dX3_span_33 : decode cX3_span 33 = .ok (.iconst 1, 1) := by decide +kernel
theorem dX3_span_34 : decode cX3_span 34 = .ok (.isub, 1) := by decide +kernel
theorem dX3_span_35 : decode cX3_span 35 = .ok (.iload_n 3, 1) := by decide +kernel
theorem dX3_span_36 : decode cX3_span 36 = .ok (.idiv, 1) := by decide +kernel
theorem dX3_span_37 : decode cX3_span 37 = .ok (.goto 5, 3) := by decide +kernel
theorem dX3_span_40 : decode cX3_span 40 = .ok (.bipush (-9), 2) := by decide +kernel
theorem dX3_span_42 : decode cX3_span 42 = .ok (.ireturn, 1) := by decide +kernel
theorem dX3_lastMonth_0 : decode cX3_lastMonth 0 = .ok (.aload_n 0, 1) := by decide +kernel
theorem dX3_lastMonth_1 : decode cX3_lastMonth 1 = .ok (.iload_n 1, 1) := by decide +kernel
theorem dX3_lastMonth_2 : decode cX3_lastMonth 2 = .ok (.invokevirtual 104, 3) := by decide +kernel
theorem dX3_lastMonth_5 : decode cX3_lastMonth 5 = .ok (.ifCond .ne 11, 3) := by decide +kernel
theorem dX3_lastMonth_8 : decode cX3_lastMonth 8 = .ok (.aload_n 0, 1) := by decide +kernel
theorem dX3_lastMonth_9 : decode cX3_lastMonth 9 = .ok (.iload_n 1, 1) := by decide +kernel
theorem dX3_lastMonth_10 : decode cX3_lastMonth 10 = .ok (.invokevirtual 114, 3) := by decide +kernel
theorem dX3_lastMonth_13 : decode cX3_lastMonth 13 = .ok (.ifCond .ne 6, 3) := by decide +kernel
theorem dX3_lastMonth_16 : decode cX3_lastMonth 16 = .ok (.bipush (-9), 2) := by decide +kernel
theorem dX3_lastMonth_18 : decode cX3_lastMonth 18 = .ok (.ireturn, 1) := by decide +kernel
theorem dX3_lastMonth_19 : decode cX3_lastMonth 19 = .ok (.bipush 60, 2) := by decide +kernel
theorem dX3_lastMonth_21 : decode cX3_lastMonth 21 = .ok (.istore_n 2, 1) := by decide +kernel
theorem dX3_lastMonth_22 : decode cX3_lastMonth 22 = .ok (.iconst 0, 1) := by decide +kernel
theorem dX3_lastMonth_23 : decode cX3_lastMonth 23 = .ok (.istore_n 3, 1) := by decide +kernel
theorem dX3_lastMonth_24 : decode cX3_lastMonth 24 = .ok (.iload_n 3, 1) := by decide +kernel
theorem dX3_lastMonth_25 : decode cX3_lastMonth 25 = .ok (.aload_n 0, 1) := by decide +kernel
theorem dX3_lastMonth_26 : decode cX3_lastMonth 26 = .ok (.getfield 19, 3) := by decide +kernel
theorem dX3_lastMonth_29 : decode cX3_lastMonth 29 = .ok (.getfield 123, 3) := by decide +kernel
theorem dX3_lastMonth_32 : decode cX3_lastMonth 32 = .ok (.if_icmp .ge 58, 3) := by decide +kernel
theorem dX3_lastMonth_35 : decode cX3_lastMonth 35 = .ok (.aload_n 0, 1) := by decide +kernel
theorem dX3_lastMonth_36 : decode cX3_lastMonth 36 = .ok (.iload_n 3, 1) := by decide +kernel
theorem dX3_lastMonth_37 : decode cX3_lastMonth 37 = .ok (.iload_n 1, 1) := by decide +kernel
theorem dX3_lastMonth_38 : decode cX3_lastMonth 38 = .ok (.invokevirtual 126, 3) := by decide +kernel
theorem dX3_lastMonth_41 : decode cX3_lastMonth 41 = .ok (.istore 4, 2) := by decide +kernel
theorem dX3_lastMonth_43 : decode cX3_lastMonth 43 = .ok (.aload_n 0, 1) := by decide +kernel
theorem dX3_lastMonth_44 : decode cX3_lastMonth 44 = .ok (.getfield 19, 3) := by decide +kernel
theorem dX3_lastMonth_47 : decode cX3_lastMonth 47 = .ok (.getfield 82, 3) := by decide +kernel
theorem dX3_lastMonth_50 : decode cX3_lastMonth 50 = .ok (.iload_n 3, 1) := by decide +kernel
theorem dX3_lastMonth_51 : decode cX3_lastMonth 51 = .ok (.iaload, 1) := by decide +kernel
theorem dX3_lastMonth_52 : decode cX3_lastMonth 52 = .ok (.istore 5, 2) := by decide +kernel
theorem dX3_lastMonth_54 : decode cX3_lastMonth 54 = .ok (.iload 4, 2) := by decide +kernel
theorem dX3_lastMonth_56 : decode cX3_lastMonth 56 = .ok (.ifCond .le 28, 3) := by decide +kernel
theorem dX3_lastMonth_59 : decode cX3_lastMonth 59 = .ok (.iload 5, 2) := by decide +kernel
theorem dX3_lastMonth_61 : decode cX3_lastMonth 61 = .ok (.ifCond .le 23, 3) := by decide +kernel
theorem dX3_lastMonth_64 : decode cX3_lastMonth 64 = .ok (.iload_n 2, 1) := by decide +kernel
theorem dX3_lastMonth_65 : decode cX3_lastMonth 65 = .ok (.aload_n 0, 1) := by decide +kernel
theorem dX3_lastMonth_66 : decode cX3_lastMonth 66 = .ok (.getfield 29, 3) := by decide +kernel
theorem dX3_lastMonth_69 : decode cX3_lastMonth 69 = .ok (.getfield 79, 3) := by decide +kernel
theorem dX3_lastMonth_72 : decode cX3_lastMonth 72 = .ok (.iload_n 3, 1) := by decide +kernel
theorem dX3_lastMonth_73 : decode cX3_lastMonth 73 = .ok (.iaload, 1) := by decide +kernel
theorem dX3_lastMonth_74 : decode cX3_lastMonth 74 = .ok (.iload 4, 2) := by decide +kernel
theorem dX3_lastMonth_76 : decode cX3_lastMonth 76 = .ok (.isub, 1) := by decide +kernel
theorem dX3_lastMonth_77 : decode cX3_lastMonth 77 = .ok (.iload 5, 2) := by decide +kernel
theorem dX3_lastMonth_79 : decode cX3_lastMonth 79 = .ok (.idiv, 1) := by decide +kernel
theorem dX3_lastMonth_80 : decode cX3_lastMonth 80 = .ok (.invokestatic 225, 3) := by decide +kernel
theorem dX3_lastMonth_83 : decode cX3_lastMonth 83 = .ok (.istore_n 2, 1) := by decide +kernel
theorem dX3_lastMonth_84 : decode cX3_lastMonth 84 = .ok (.iinc 3 1, 3) := by decide +kernel
theorem dX3_lastMonth_87 : decode cX3_lastMonth 87 = .ok (.goto (-63), 3) := by decide +kernel
theorem dX3_lastMonth_90 : decode cX3_lastMonth 90 = .ok (.iload_n 2, 1) := by decide +kernel
theorem dX3_lastMonth_91 : decode cX3_lastMonth 91 = .ok (.ireturn, 1) := by decide +kernel
theorem dX3_fewestChanges_0 : decode cX3_fewestChanges 0 = .ok (.aload_n 0, 1) := by decide +kernel
theorem dX3_fewestChanges_1 : decode cX3_fewestChanges 1 = .ok (.getfield 19, 3) := by decide +kernel
theorem dX3_fewestChanges_4 : decode cX3_fewestChanges 4 = .ok (.getfield 123, 3) := by decide +kernel
theorem dX3_fewestChanges_7 : decode cX3_fewestChanges 7 = .ok (.istore_n 1, 1) := by decide +kernel
theorem dX3_fewestChanges_8 : decode cX3_fewestChanges 8 = .ok (.iconst 0, 1) := by decide +kernel
theorem dX3_fewestChanges_9 : decode cX3_fewestChanges 9 = .ok (.istore_n 2, 1) := by decide +kernel
theorem dX3_fewestChanges_10 : decode cX3_fewestChanges 10 = .ok (.iconst 0, 1) := by decide +kernel
theorem dX3_fewestChanges_11 : decode cX3_fewestChanges 11 = .ok (.istore_n 3, 1) := by decide +kernel
theorem dX3_fewestChanges_12 : decode cX3_fewestChanges 12 = .ok (.iload_n 3, 1) := by decide +kernel
theorem dX3_fewestChanges_13 : decode cX3_fewestChanges 13 = .ok (.aload_n 0, 1) := by decide +kernel
theorem dX3_fewestChanges_14 : decode cX3_fewestChanges 14 = .ok (.getfield 19, 3) := by decide +kernel
theorem dX3_fewestChanges_17 : decode cX3_fewestChanges 17 = .ok (.getfield 123, 3) := by decide +kernel
theorem dX3_fewestChanges_20 : decode cX3_fewestChanges 20 = .ok (.if_icmp .ge 28, 3) := by decide +kernel
theorem dX3_fewestChanges_23 : decode cX3_fewestChanges 23 = .ok (.iload_n 2, 1) := by decide +kernel
theorem dX3_fewestChanges_24 : decode cX3_fewestChanges 24 = .ok (.iload_n 3, 1) := by decide +kernel
theorem dX3_fewestChanges_25 : decode cX3_fewestChanges 25 = .ok (.invokestatic 221, 3) := by decide +kernel
theorem dX3_fewestChanges_28 : decode cX3_fewestChanges 28 = .ok (.ifCond .ne 14, 3) := by decide +kernel
theorem dX3_fewestChanges_31 : decode cX3_fewestChanges 31 = .ok (.iinc 1 (-1), 3) := by decide +kernel
theorem dX3_fewestChanges_34 : decode cX3_fewestChanges 34 = .ok (.iload_n 2, 1) := by decide +kernel
theorem dX3_fewestChanges_35 : decode cX3_fewestChanges 35 = .ok (.aload_n 0, 1) := by decide +kernel
theorem dX3_fewestChanges_36 : decode cX3_fewestChanges 36 = .ok (.iload_n 3, 1) := by decide +kernel
theorem dX3_fewestChanges_37 : decode cX3_fewestChanges 37 = .ok (.invokevirtual 230, 3) := by decide +kernel
theorem dX3_fewestChanges_40 : decode cX3_fewestChanges 40 = .ok (.ior, 1) := by decide +kernel
theorem dX3_fewestChanges_41 : decode cX3_fewestChanges 41 = .ok (.istore_n 2, 1) := by decide +kernel
theorem dX3_fewestChanges_42 : decode cX3_fewestChanges 42 = .ok (.iinc 3 1, 3) := by decide +kernel
theorem dX3_fewestChanges_45 : decode cX3_fewestChanges 45 = .ok (.goto (-33), 3) := by decide +kernel
theorem dX3_fewestChanges_48 : decode cX3_fewestChanges 48 = .ok (.iload_n 1, 1) := by decide +kernel
theorem dX3_fewestChanges_49 : decode cX3_fewestChanges 49 = .ok (.ireturn, 1) := by decide +kernel
theorem dX3_ringOf_0 : decode cX3_ringOf 0 = .ok (.iconst 0, 1) := by decide +kernel
theorem dX3_ringOf_1 : decode cX3_ringOf 1 = .ok (.istore_n 2, 1) := by decide +kernel
theorem dX3_ringOf_2 : decode cX3_ringOf 2 = .ok (.iload_n 1, 1) := by decide +kernel
theorem dX3_ringOf_3 : decode cX3_ringOf 3 = .ok (.istore_n 3, 1) := by decide +kernel
theorem dX3_ringOf_4 : decode cX3_ringOf 4 = .ok (.iconst 0, 1) := by decide +kernel
theorem dX3_ringOf_5 : decode cX3_ringOf 5 = .ok (.istore 4, 2) := by decide +kernel
theorem dX3_ringOf_7 : decode cX3_ringOf 7 = .ok (.iload 4, 2) := by decide +kernel
theorem dX3_ringOf_9 : decode cX3_ringOf 9 = .ok (.aload_n 0, 1) := by decide +kernel
theorem dX3_ringOf_10 : decode cX3_ringOf 10 = .ok (.getfield 19, 3) := by decide +kernel
theorem dX3_ringOf_13 : decode cX3_ringOf 13 = .ok (.getfield 123, 3) := by decide +kernel
theorem dX3_ringOf_16 : decode cX3_ringOf 16 = .ok (.if_icmp .ge 33, 3) := by decide +kernel
theorem dX3_ringOf_19 : decode cX3_ringOf 19 = .ok (.aload_n 0, 1) := by decide +kernel
theorem dX3_ringOf_20 : decode cX3_ringOf 20 = .ok (.iload_n 3, 1) := by decide +kernel
theorem dX3_ringOf_21 : decode cX3_ringOf 21 = .ok (.invokevirtual 76, 3) := by decide +kernel
theorem dX3_ringOf_24 : decode cX3_ringOf 24 = .ok (.ifCond .eq 25, 3) := by decide +kernel
theorem dX3_ringOf_27 : decode cX3_ringOf 27 = .ok (.iload_n 2, 1) := by decide +kernel
theorem dX3_ringOf_28 : decode cX3_ringOf 28 = .ok (.iconst 1, 1) := by decide +kernel
theorem dX3_ringOf_29 : decode cX3_ringOf 29 = .ok (.iload_n 3, 1) := by decide +kernel
theorem dX3_ringOf_30 : decode cX3_ringOf 30 = .ok (.ishl, 1) := by decide +kernel
theorem dX3_ringOf_31 : decode cX3_ringOf 31 = .ok (.ior, 1) := by decide +kernel
theorem dX3_ringOf_32 : decode cX3_ringOf 32 = .ok (.istore_n 2, 1) := by decide +kernel
theorem dX3_ringOf_33 : decode cX3_ringOf 33 = .ok (.aload_n 0, 1) := by decide +kernel
theorem dX3_ringOf_34 : decode cX3_ringOf 34 = .ok (.getfield 29, 3) := by decide +kernel
theorem dX3_ringOf_37 : decode cX3_ringOf 37 = .ok (.getfield 88, 3) := by decide +kernel
theorem dX3_ringOf_40 : decode cX3_ringOf 40 = .ok (.iload_n 3, 1) := by decide +kernel
theorem dX3_ringOf_41 : decode cX3_ringOf 41 = .ok (.iaload, 1) := by decide +kernel
theorem dX3_ringOf_42 : decode cX3_ringOf 42 = .ok (.istore_n 3, 1) := by decide +kernel
theorem dX3_ringOf_43 : decode cX3_ringOf 43 = .ok (.iinc 4 1, 3) := by decide +kernel
theorem dX3_ringOf_46 : decode cX3_ringOf 46 = .ok (.goto (-39), 3) := by decide +kernel
theorem dX3_ringOf_49 : decode cX3_ringOf 49 = .ok (.iload_n 2, 1) := by decide +kernel
theorem dX3_ringOf_50 : decode cX3_ringOf 50 = .ok (.ireturn, 1) := by decide +kernel
theorem dX3_firstChange_0 : decode cX3_firstChange 0 = .ok (.iconst 0, 1) := by decide +kernel
theorem dX3_firstChange_1 : decode cX3_firstChange 1 = .ok (.istore_n 1, 1) := by decide +kernel
theorem dX3_firstChange_2 : decode cX3_firstChange 2 = .ok (.iload_n 1, 1) := by decide +kernel
theorem dX3_firstChange_3 : decode cX3_firstChange 3 = .ok (.aload_n 0, 1) := by decide +kernel
theorem dX3_firstChange_4 : decode cX3_firstChange 4 = .ok (.getfield 19, 3) := by decide +kernel
theorem dX3_firstChange_7 : decode cX3_firstChange 7 = .ok (.getfield 123, 3) := by decide +kernel
theorem dX3_firstChange_10 : decode cX3_firstChange 10 = .ok (.if_icmp .ge 63, 3) := by decide +kernel
theorem dX3_firstChange_13 : decode cX3_firstChange 13 = .ok (.iload_n 1, 1) := by decide +kernel
theorem dX3_firstChange_14 : decode cX3_firstChange 14 = .ok (.iconst 1, 1) := by decide +kernel
theorem dX3_firstChange_15 : decode cX3_firstChange 15 = .ok (.iadd, 1) := by decide +kernel
theorem dX3_firstChange_16 : decode cX3_firstChange 16 = .ok (.istore_n 2, 1) := by decide +kernel
theorem dX3_firstChange_17 : decode cX3_firstChange 17 = .ok (.iload_n 2, 1) := by decide +kernel
theorem dX3_firstChange_18 : decode cX3_firstChange 18 = .ok (.aload_n 0, 1) := by decide +kernel
theorem dX3_firstChange_19 : decode cX3_firstChange 19 = .ok (.getfield 19, 3) := by decide +kernel
theorem dX3_firstChange_22 : decode cX3_firstChange 22 = .ok (.getfield 123, 3) := by decide +kernel
theorem dX3_firstChange_25 : decode cX3_firstChange 25 = .ok (.if_icmp .ge 42, 3) := by decide +kernel
theorem dX3_firstChange_28 : decode cX3_firstChange 28 = .ok (.aload_n 0, 1) := by decide +kernel
theorem dX3_firstChange_29 : decode cX3_firstChange 29 = .ok (.getfield 29, 3) := by decide +kernel
theorem dX3_firstChange_32 : decode cX3_firstChange 32 = .ok (.getfield 88, 3) := by decide +kernel
theorem dX3_firstChange_35 : decode cX3_firstChange 35 = .ok (.iload_n 1, 1) := by decide +kernel
theorem dX3_firstChange_36 : decode cX3_firstChange 36 = .ok (.iaload, 1) := by decide +kernel
theorem dX3_firstChange_37 : decode cX3_firstChange 37 = .ok (.iload_n 2, 1) := by decide +kernel
theorem dX3_firstChange_38 : decode cX3_firstChange 38 = .ok (.if_icmp .eq 16, 3) := by decide +kernel
theorem dX3_firstChange_41 : decode cX3_firstChange 41 = .ok (.aload_n 0, 1) := by decide +kernel
theorem dX3_firstChange_42 : decode cX3_firstChange 42 = .ok (.getfield 29, 3) := by decide +kernel
theorem dX3_firstChange_45 : decode cX3_firstChange 45 = .ok (.getfield 88, 3) := by decide +kernel
theorem dX3_firstChange_48 : decode cX3_firstChange 48 = .ok (.iload_n 2, 1) := by decide +kernel
theorem dX3_firstChange_49 : decode cX3_firstChange 49 = .ok (.iaload, 1) := by decide +kernel
theorem dX3_firstChange_50 : decode cX3_firstChange 50 = .ok (.iload_n 1, 1) := by decide +kernel
theorem dX3_firstChange_51 : decode cX3_firstChange 51 = .ok (.if_icmp .ne 10, 3) := by decide +kernel
theorem dX3_firstChange_54 : decode cX3_firstChange 54 = .ok (.bipush 10, 2) := by decide +kernel
theorem dX3_firstChange_56 : decode cX3_firstChange 56 = .ok (.iload_n 1, 1) := by decide +kernel
theorem dX3_firstChange_57 : decode cX3_firstChange 57 = .ok (.imul, 1) := by decide +kernel
theorem dX3_firstChange_58 : decode cX3_firstChange 58 = .ok (.iload_n 2, 1) := by decide +kernel
theorem dX3_firstChange_59 : decode cX3_firstChange 59 = .ok (.iadd, 1) := by decide +kernel
theorem dX3_firstChange_60 : decode cX3_firstChange 60 = .ok (.ireturn, 1) := by decide +kernel
theorem dX3_firstChange_61 : decode cX3_firstChange 61 = .ok (.iinc 2 1, 3) := by decide +kernel
theorem dX3_firstChange_64 : decode cX3_firstChange 64 = .ok (.goto (-47), 3) := by decide +kernel
theorem dX3_firstChange_67 : decode cX3_firstChange 67 = .ok (.iinc 1 1, 3) := by decide +kernel
theorem dX3_firstChange_70 : decode cX3_firstChange 70 = .ok (.goto (-68), 3) := by decide +kernel
theorem dX3_firstChange_73 : decode cX3_firstChange 73 = .ok (.bipush (-9), 2) := by decide +kernel
theorem dX3_firstChange_75 : decode cX3_firstChange 75 = .ok (.ireturn, 1) := by decide +kernel
theorem dX3_levelsTogether_0 : decode cX3_levelsTogether 0 = .ok (.iconst 0, 1) := by decide +kernel
theorem dX3_levelsTogether_1 : decode cX3_levelsTogether 1 = .ok (.istore_n 1, 1) := by decide +kernel
theorem dX3_levelsTogether_2 : decode cX3_levelsTogether 2 = .ok (.iconst 0, 1) := by decide +kernel
theorem dX3_levelsTogether_3 : decode cX3_levelsTogether 3 = .ok (.istore_n 2, 1) := by decide +kernel
theorem dX3_levelsTogether_4 : decode cX3_levelsTogether 4 = .ok (.iload_n 2, 1) := by decide +kernel
theorem dX3_levelsTogether_5 : decode cX3_levelsTogether 5 = .ok (.aload_n 0, 1) := by decide +kernel
theorem dX3_levelsTogether_6 : decode cX3_levelsTogether 6 = .ok (.getfield 19, 3) := by decide +kernel
theorem dX3_levelsTogether_9 : decode cX3_levelsTogether 9 = .ok (.getfield 123, 3) := by decide +kernel
theorem dX3_levelsTogether_12 : decode cX3_levelsTogether 12 = .ok (.if_icmp .ge 21, 3) := by decide +kernel
theorem dX3_levelsTogether_15 : decode cX3_levelsTogether 15 = .ok (.iload_n 1, 1) := by decide +kernel
theorem dX3_levelsTogether_16 : decode cX3_levelsTogether 16 = .ok (.aload_n 0, 1) := by decide +kernel
theorem dX3_levelsTogether_17 : decode cX3_levelsTogether 17 = .ok (.getfield 29, 3) := by decide +kernel
theorem dX3_levelsTogether_20 : decode cX3_levelsTogether 20 = .ok (.getfield 79, 3) := by decide +kernel
theorem dX3_levelsTogether_23 : decode cX3_levelsTogether 23 = .ok (.iload_n 2, 1) := by decide +kernel
theorem dX3_levelsTogether_24 : decode cX3_levelsTogether 24 = .ok (.iaload, 1) := by decide +kernel
theorem dX3_levelsTogether_25 : decode cX3_levelsTogether 25 = .ok (.iadd, 1) := by decide +kernel
theorem dX3_levelsTogether_26 : decode cX3_levelsTogether 26 = .ok (.istore_n 1, 1) := by decide +kernel
theorem dX3_levelsTogether_27 : decode cX3_levelsTogether 27 = .ok (.iinc 2 1, 3) := by decide +kernel
theorem dX3_levelsTogether_30 : decode cX3_levelsTogether 30 = .ok (.goto (-26), 3) := by decide +kernel
theorem dX3_levelsTogether_33 : decode cX3_levelsTogether 33 = .ok (.iload_n 1, 1) := by decide +kernel
theorem dX3_levelsTogether_34 : decode cX3_levelsTogether 34 = .ok (.ireturn, 1) := by decide +kernel
theorem dX3_differenceOf_0 : decode cX3_differenceOf 0 = .ok (.iconst 0, 1) := by decide +kernel
theorem dX3_differenceOf_1 : decode cX3_differenceOf 1 = .ok (.istore_n 2, 1) := by decide +kernel
theorem dX3_differenceOf_2 : decode cX3_differenceOf 2 = .ok (.iconst 0, 1) := by decide +kernel
theorem dX3_differenceOf_3 : decode cX3_differenceOf 3 = .ok (.istore_n 3, 1) := by decide +kernel
theorem dX3_differenceOf_4 : decode cX3_differenceOf 4 = .ok (.iload_n 3, 1) := by decide +kernel
theorem dX3_differenceOf_5 : decode cX3_differenceOf 5 = .ok (.aload_n 0, 1) := by decide +kernel
theorem dX3_differenceOf_6 : decode cX3_differenceOf 6 = .ok (.getfield 19, 3) := by decide +kernel
theorem dX3_differenceOf_9 : decode cX3_differenceOf 9 = .ok (.getfield 123, 3) := by decide +kernel
theorem dX3_differenceOf_12 : decode cX3_differenceOf 12 = .ok (.if_icmp .ge 42, 3) := by decide +kernel
theorem dX3_differenceOf_15 : decode cX3_differenceOf 15 = .ok (.iload_n 2, 1) := by decide +kernel
theorem dX3_differenceOf_16 : decode cX3_differenceOf 16 = .ok (.iload_n 1, 1) := by decide +kernel
theorem dX3_differenceOf_17 : decode cX3_differenceOf 17 = .ok (.iload_n 3, 1) := by decide +kernel
theorem dX3_differenceOf_18 : decode cX3_differenceOf 18 = .ok (.invokestatic 221, 3) := by decide +kernel
theorem dX3_differenceOf_21 : decode cX3_differenceOf 21 = .ok (.ifCond .eq 15, 3) := by decide +kernel
theorem dX3_differenceOf_24 : decode cX3_differenceOf 24 = .ok (.aload_n 0, 1) := by decide +kernel
theorem dX3_differenceOf_25 : decode cX3_differenceOf 25 = .ok (.getfield 29, 3) := by decide +kernel
theorem dX3_differenceOf_28 : decode cX3_differenceOf 28 = .ok (.getfield 79, 3) := by decide +kernel
theorem dX3_differenceOf_31 : decode cX3_differenceOf 31 = .ok (.iload_n 3, 1) := by decide +kernel
theorem dX3_differenceOf_32 : decode cX3_differenceOf 32 = .ok (.iaload, 1) := by decide +kernel
theorem dX3_differenceOf_33 : decode cX3_differenceOf 33 = .ok (.goto 13, 3) := by decide +kernel
theorem dX3_differenceOf_36 : decode cX3_differenceOf 36 = .ok (.aload_n 0, 1) := by decide +kernel
theorem dX3_differenceOf_37 : decode cX3_differenceOf 37 = .ok (.getfield 29, 3) := by decide +kernel
theorem dX3_differenceOf_40 : decode cX3_differenceOf 40 = .ok (.getfield 79, 3) := by decide +kernel
theorem dX3_differenceOf_43 : decode cX3_differenceOf 43 = .ok (.iload_n 3, 1) := by decide +kernel
theorem dX3_differenceOf_44 : decode cX3_differenceOf 44 = .ok (.iaload, 1) := by decide +kernel
theorem dX3_differenceOf_45 : decode cX3_differenceOf 45 = .ok (.ineg, 1) := by decide +kernel
theorem dX3_differenceOf_46 : decode cX3_differenceOf 46 = .ok (.iadd, 1) := by decide +kernel
theorem dX3_differenceOf_47 : decode cX3_differenceOf 47 = .ok (.istore_n 2, 1) := by decide +kernel
theorem dX3_differenceOf_48 : decode cX3_differenceOf 48 = .ok (.iinc 3 1, 3) := by decide +kernel
theorem dX3_differenceOf_51 : decode cX3_differenceOf 51 = .ok (.goto (-47), 3) := by decide +kernel
theorem dX3_differenceOf_54 : decode cX3_differenceOf 54 = .ok (.iload_n 2, 1) := by decide +kernel
theorem dX3_differenceOf_55 : decode cX3_differenceOf 55 = .ok (.invokestatic 233, 3) := by decide +kernel
theorem dX3_differenceOf_58 : decode cX3_differenceOf 58 = .ok (.ireturn, 1) := by decide +kernel
theorem dX3_inLeastTerms_0 : decode cX3_inLeastTerms 0 = .ok (.bipush 10, 2) := by decide +kernel
theorem dX3_inLeastTerms_2 : decode cX3_inLeastTerms 2 = .ok (.istore_n 2, 1) := by decide +kernel
theorem dX3_inLeastTerms_3 : decode cX3_inLeastTerms 3 = .ok (.iload_n 2, 1) := by decide +kernel
theorem dX3_inLeastTerms_4 : decode cX3_inLeastTerms 4 = .ok (.iconst 1, 1) := by decide +kernel
theorem dX3_inLeastTerms_5 : decode cX3_inLeastTerms 5 = .ok (.if_icmp .le 26, 3) := by decide +kernel
theorem dX3_inLeastTerms_8 : decode cX3_inLeastTerms 8 = .ok (.bipush 10, 2) := by decide +kernel
theorem dX3_inLeastTerms_10 : decode cX3_inLeastTerms 10 = .ok (.iload_n 2, 1) := by decide +kernel
theorem dX3_inLeastTerms_11 : decode cX3_inLeastTerms 11 = .ok (.irem, 1) := by decide +kernel
theorem dX3_inLeastTerms_12 : decode cX3_inLeastTerms 12 = .ok (.ifCond .ne 13, 3) := by decide +kernel
theorem dX3_inLeastTerms_15 : decode cX3_inLeastTerms 15 = .ok (.iload_n 1, 1) := by decide +kernel
theorem dX3_inLeastTerms_16 : decode cX3_inLeastTerms 16 = .ok (.iload_n 2, 1) := by decide +kernel
theorem dX3_inLeastTerms_17 : decode cX3_inLeastTerms 17 = .ok (.irem, 1) := by decide +kernel
theorem dX3_inLeastTerms_18 : decode cX3_inLeastTerms 18 = .ok (.ifCond .ne 7, 3) := by decide +kernel
theorem dX3_inLeastTerms_21 : decode cX3_inLeastTerms 21 = .ok (.iload_n 0, 1) := by decide +kernel
theorem dX3_inLeastTerms_22 : decode cX3_inLeastTerms 22 = .ok (.iload_n 2, 1) := by decide +kernel
theorem dX3_inLeastTerms_23 : decode cX3_inLeastTerms 23 = .ok (.idiv, 1) := by decide +kernel
theorem dX3_inLeastTerms_24 : decode cX3_inLeastTerms 24 = .ok (.ireturn, 1) := by decide +kernel
theorem dX3_inLeastTerms_25 : decode cX3_inLeastTerms 25 = .ok (.iinc 2 (-1), 3) := by decide +kernel
theorem dX3_inLeastTerms_28 : decode cX3_inLeastTerms 28 = .ok (.goto (-25), 3) := by decide +kernel
theorem dX3_inLeastTerms_31 : decode cX3_inLeastTerms 31 = .ok (.iload_n 0, 1) := by decide +kernel
theorem dX3_inLeastTerms_32 : decode cX3_inLeastTerms 32 = .ok (.ireturn, 1) := by decide +kernel
theorem dX3_agreesWithTold_0 : decode cX3_agreesWithTold 0 = .ok (.iconst 0, 1) := by decide +kernel
theorem dX3_agreesWithTold_1 : decode cX3_agreesWithTold 1 = .ok (.istore_n 2, 1) := by decide +kernel
theorem dX3_agreesWithTold_2 : decode cX3_agreesWithTold 2 = .ok (.iload_n 2, 1) := by decide +kernel
theorem dX3_agreesWithTold_3 : decode cX3_agreesWithTold 3 = .ok (.aload_n 0, 1) := by decide +kernel
theorem dX3_agreesWithTold_4 : decode cX3_agreesWithTold 4 = .ok (.getfield 51, 3) := by decide +kernel
theorem dX3_agreesWithTold_7 : decode cX3_agreesWithTold 7 = .ok (.if_icmp .ge 40, 3) := by decide +kernel
theorem dX3_agreesWithTold_10 : decode cX3_agreesWithTold 10 = .ok (.aload_n 0, 1) := by decide +kernel
theorem dX3_agreesWithTold_11 : decode cX3_agreesWithTold 11 = .ok (.getfield 43, 3) := by decide +kernel
theorem dX3_agreesWithTold_14 : decode cX3_agreesWithTold 14 = .ok (.iload_n 2, 1) := by decide +kernel
theorem dX3_agreesWithTold_15 : decode cX3_agreesWithTold 15 = .ok (.iaload, 1) := by decide +kernel
theorem dX3_agreesWithTold_16 : decode cX3_agreesWithTold 16 = .ok (.iload_n 1, 1) := by decide +kernel
theorem dX3_agreesWithTold_17 : decode cX3_agreesWithTold 17 = .ok (.iconst (-1), 1) := by decide +kernel
theorem dX3_agreesWithTold_18 : decode cX3_agreesWithTold 18 = .ok (.ixor, 1) := by decide +kernel
theorem dX3_agreesWithTold_19 : decode cX3_agreesWithTold 19 = .ok (.iand, 1) := by decide +kernel
theorem dX3_agreesWithTold_20 : decode cX3_agreesWithTold 20 = .ok (.ifCond .ne 7, 3) := by decide +kernel
theorem dX3_agreesWithTold_23 : decode cX3_agreesWithTold 23 = .ok (.iconst 1, 1) := by decide +kernel
theorem dX3_agreesWithTold_24 : decode cX3_agreesWithTold 24 = .ok (.goto 4, 3) := by decide +kernel
theorem dX3_agreesWithTold_27 : decode cX3_agreesWithTold 27 = .ok (.iconst 0, 1) := by decide +kernel
theorem dX3_agreesWithTold_28 : decode cX3_agreesWithTold 28 = .ok (.istore_n 3, 1) := by decide +kernel
theorem dX3_agreesWithTold_29 : decode cX3_agreesWithTold 29 = .ok (.iload_n 3, 1) := by decide +kernel
theorem dX3_agreesWithTold_30 : decode cX3_agreesWithTold 30 = .ok (.aload_n 0, 1) := by decide +kernel
theorem dX3_agreesWithTold_31 : decode cX3_agreesWithTold 31 = .ok (.getfield 47, 3) := by decide +kernel
theorem dX3_agreesWithTold_34 : decode cX3_agreesWithTold 34 = .ok (.iload_n 2, 1) := by decide +kernel
theorem dX3_agreesWithTold_35 : decode cX3_agreesWithTold 35 = .ok (.baload, 1) := by decide +kernel
theorem dX3_agreesWithTold_36 : decode cX3_agreesWithTold 36 = .ok (.if_icmp .eq 5, 3) := by decide +kernel
theorem dX3_agreesWithTold_39 : decode cX3_agreesWithTold 39 = .ok (.iconst 0, 1) := by decide +kernel
theorem dX3_agreesWithTold_40 : decode cX3_agreesWithTold 40 = .ok (.ireturn, 1) := by decide +kernel
theorem dX3_agreesWithTold_41 : decode cX3_agreesWithTold 41 = .ok (.iinc 2 1, 3) := by decide +kernel
theorem dX3_agreesWithTold_44 : decode cX3_agreesWithTold 44 = .ok (.goto (-42), 3) := by decide +kernel
theorem dX3_agreesWithTold_47 : decode cX3_agreesWithTold 47 = .ok (.iconst 1, 1) := by decide +kernel
theorem dX3_agreesWithTold_48 : decode cX3_agreesWithTold 48 = .ok (.ireturn, 1) := by decide +kernel
theorem dX3_waysWithOwn_0 : decode cX3_waysWithOwn 0 = .ok (.aload_n 0, 1) := by decide +kernel
theorem dX3_waysWithOwn_1 : decode cX3_waysWithOwn 1 = .ok (.getfield 19, 3) := by decide +kernel
theorem dX3_waysWithOwn_4 : decode cX3_waysWithOwn 4 = .ok (.getfield 123, 3) := by decide +kernel
theorem dX3_waysWithOwn_7 : decode cX3_waysWithOwn 7 = .ok (.iload_n 1, 1) := by decide +kernel
theorem dX3_waysWithOwn_8 : decode cX3_waysWithOwn 8 = .ok (.invokestatic 183, 3) := by decide +kernel
theorem dX3_waysWithOwn_11 : decode cX3_waysWithOwn 11 = .ok (.isub, 1) := by decide +kernel
theorem dX3_waysWithOwn_12 : decode cX3_waysWithOwn 12 = .ok (.istore_n 2, 1) := by decide +kernel
theorem dX3_waysWithOwn_13 : decode cX3_waysWithOwn 13 = .ok (.iload_n 2, 1) := by decide +kernel
theorem dX3_waysWithOwn_14 : decode cX3_waysWithOwn 14 = .ok (.ifCond .lt 19, 3) := by decide +kernel
theorem dX3_waysWithOwn_17 : decode cX3_waysWithOwn 17 = .ok (.iload_n 2, 1) := by decide +kernel
theorem dX3_waysWithOwn_18 : decode cX3_waysWithOwn 18 = .ok (.getstatic 236, 3) := by decide +kernel
theorem dX3_waysWithOwn_21 : decode cX3_waysWithOwn 21 = .ok (.arraylength, 1) := by decide +kernel
theorem dX3_waysWithOwn_22 : decode cX3_waysWithOwn 22 = .ok (.if_icmp .ge 11, 3) := by decide +kernel
theorem dX3_waysWithOwn_25 : decode cX3_waysWithOwn 25 = .ok (.aload_n 0, 1) := by decide +kernel
theorem dX3_waysWithOwn_26 : decode cX3_waysWithOwn 26 = .ok (.iload_n 1, 1) := by decide +kernel
theorem dX3_waysWithOwn_27 : decode cX3_waysWithOwn 27 = .ok (.invokevirtual 239, 3) := by decide +kernel
theorem dX3_waysWithOwn_30 : decode cX3_waysWithOwn 30 = .ok (.ifCond .ne 5, 3) := by decide +kernel
theorem dX3_waysWithOwn_33 : decode cX3_waysWithOwn 33 = .ok (.iconst 0, 1) := by decide +kernel
theorem dX3_waysWithOwn_34 : decode cX3_waysWithOwn 34 = .ok (.ireturn, 1) := by decide +kernel
theorem dX3_waysWithOwn_35 : decode cX3_waysWithOwn 35 = .ok (.getstatic 236, 3) := by decide +kernel
theorem dX3_waysWithOwn_38 : decode cX3_waysWithOwn 38 = .ok (.iload_n 2, 1) := by decide +kernel
theorem dX3_waysWithOwn_39 : decode cX3_waysWithOwn 39 = .ok (.iaload, 1) := by decide +kernel
theorem dX3_waysWithOwn_40 : decode cX3_waysWithOwn 40 = .ok (.ireturn, 1) := by decide +kernel
theorem dX3_waysThatFit_0 : decode cX3_waysThatFit 0 = .ok (.iconst 0, 1) := by decide +kernel
theorem dX3_waysThatFit_1 : decode cX3_waysThatFit 1 = .ok (.istore_n 1, 1) := by decide +kernel
theorem dX3_waysThatFit_2 : decode cX3_waysThatFit 2 = .ok (.iconst 0, 1) := by decide +kernel
theorem dX3_waysThatFit_3 : decode cX3_waysThatFit 3 = .ok (.istore_n 2, 1) := by decide +kernel
theorem dX3_waysThatFit_4 : decode cX3_waysThatFit 4 = .ok (.iload_n 2, 1) := by decide +kernel
theorem dX3_waysThatFit_5 : decode cX3_waysThatFit 5 = .ok (.iconst 1, 1) := by decide +kernel
theorem dX3_waysThatFit_6 : decode cX3_waysThatFit 6 = .ok (.aload_n 0, 1) := by decide +kernel
theorem dX3_waysThatFit_7 : decode cX3_waysThatFit 7 = .ok (.getfield 19, 3) := by decide +kernel
theorem dX3_waysThatFit_10 : decode cX3_waysThatFit 10 = .ok (.getfield 123, 3) := by decide +kernel
theorem dX3_waysThatFit_13 : decode cX3_waysThatFit 13 = .ok (.ishl, 1) := by decide +kernel
theorem dX3_waysThatFit_14 : decode cX3_waysThatFit 14 = .ok (.if_icmp .ge 17, 3) := by decide +kernel
theorem dX3_waysThatFit_17 : decode cX3_waysThatFit 17 = .ok (.iload_n 1, 1) := by decide +kernel
theorem dX3_waysThatFit_18 : decode cX3_waysThatFit 18 = .ok (.aload_n 0, 1) := by decide +kernel
theorem dX3_waysThatFit_19 : decode cX3_waysThatFit 19 = .ok (.iload_n 2, 1) := by decide +kernel
theorem dX3_waysThatFit_20 : decode cX3_waysThatFit 20 = .ok (.invokevirtual 242, 3) := by decide +kernel
theorem dX3_waysThatFit_23 : decode cX3_waysThatFit 23 = .ok (.iadd, 1) := by decide +kernel
theorem dX3_waysThatFit_24 : decode cX3_waysThatFit 24 = .ok (.istore_n 1, 1) := by decide +kernel
theorem dX3_waysThatFit_25 : decode cX3_waysThatFit 25 = .ok (.iinc 2 1, 3) := by decide +kernel
theorem dX3_waysThatFit_28 : decode cX3_waysThatFit 28 = .ok (.goto (-24), 3) := by decide +kernel
theorem dX3_waysThatFit_31 : decode cX3_waysThatFit 31 = .ok (.iload_n 1, 1) := by decide +kernel
theorem dX3_waysThatFit_32 : decode cX3_waysThatFit 32 = .ok (.ireturn, 1) := by decide +kernel
theorem dX3_sureLabel_0 : decode cX3_sureLabel 0 = .ok (.iconst 1, 1) := by decide +kernel
theorem dX3_sureLabel_1 : decode cX3_sureLabel 1 = .ok (.aload_n 0, 1) := by decide +kernel
theorem dX3_sureLabel_2 : decode cX3_sureLabel 2 = .ok (.getfield 19, 3) := by decide +kernel
theorem dX3_sureLabel_5 : decode cX3_sureLabel 5 = .ok (.getfield 123, 3) := by decide +kernel
theorem dX3_sureLabel_8 : decode cX3_sureLabel 8 = .ok (.ishl, 1) := by decide +kernel
theorem dX3_sureLabel_9 : decode cX3_sureLabel 9 = .ok (.iconst 1, 1) := by decide +kernel
theorem dX3_sureLabel_10 : decode cX3_sureLabel 10 = .ok (.isub, 1) := by decide +kernel
theorem dX3_sureLabel_11 : decode cX3_sureLabel 11 = .ok (.istore_n 2, 1) := by decide +kernel
theorem dX3_sureLabel_12 : decode cX3_sureLabel 12 = .ok (.iconst 0, 1) := by decide +kernel
theorem dX3_sureLabel_13 : decode cX3_sureLabel 13 = .ok (.istore_n 3, 1) := by decide +kernel
theorem dX3_sureLabel_14 : decode cX3_sureLabel 14 = .ok (.iconst 0, 1) := by decide +kernel
theorem dX3_sureLabel_15 : decode cX3_sureLabel 15 = .ok (.istore 4, 2) := by decide +kernel
theorem dX3_sureLabel_17 : decode cX3_sureLabel 17 = .ok (.iload 4, 2) := by decide +kernel
theorem dX3_sureLabel_19 : decode cX3_sureLabel 19 = .ok (.iload_n 2, 1) := by decide +kernel
theorem dX3_sureLabel_20 : decode cX3_sureLabel 20 = .ok (.if_icmp .gt 48, 3) := by decide +kernel
theorem dX3_sureLabel_23 : decode cX3_sureLabel 23 = .ok (.aload_n 0, 1) := by decide +kernel
theorem dX3_sureLabel_24 : decode cX3_sureLabel 24 = .ok (.iload 4, 2) := by decide +kernel
theorem dX3_sureLabel_26 : decode cX3_sureLabel 26 = .ok (.invokevirtual 242, 3) := by decide +kernel
theorem dX3_sureLabel_29 : decode cX3_sureLabel 29 = .ok (.ifCond .le 33, 3) := by decide +kernel
theorem dX3_sureLabel_32 : decode cX3_sureLabel 32 = .ok (.iload_n 3, 1) := by decide +kernel
theorem dX3_sureLabel_33 : decode cX3_sureLabel 33 = .ok (.iload 4, 2) := by decide +kernel
theorem dX3_sureLabel_35 : decode cX3_sureLabel 35 = .ok (.iload_n 1, 1) := by decide +kernel
theorem dX3_sureLabel_36 : decode cX3_sureLabel 36 = .ok (.invokestatic 221, 3) := by decide +kernel
theorem dX3_sureLabel_39 : decode cX3_sureLabel 39 = .ok (.ifCond .eq 9, 3) := by decide +kernel
theorem dX3_sureLabel_42 : decode cX3_sureLabel 42 = .ok (.iconst 1, 1) := by decide +kernel
theorem dX3_sureLabel_43 : decode cX3_sureLabel 43 = .ok (.iload_n 1, 1) := by decide +kernel
theorem dX3_sureLabel_44 : decode cX3_sureLabel 44 = .ok (.ishl, 1) := by decide +kernel
theorem dX3_sureLabel_45 : decode cX3_sureLabel 45 = .ok (.goto 15, 3) := by decide +kernel
theorem dX3_sureLabel_48 : decode cX3_sureLabel 48 = .ok (.iload_n 2, 1) := by decide +kernel
theorem dX3_sureLabel_49 : decode cX3_sureLabel 49 = .ok (.iload 4, 2) := by decide +kernel
theorem dX3_sureLabel_51 : decode cX3_sureLabel 51 = .ok (.iconst (-1), 1) := by decide +kernel
theorem dX3_sureLabel_52 : decode cX3_sureLabel 52 = .ok (.ixor, 1) := by decide +kernel
theorem dX3_sureLabel_53 : decode cX3_sureLabel 53 = .ok (.iand, 1) := by decide +kernel
theorem dX3_sureLabel_54 : decode cX3_sureLabel 54 = .ok (.iconst 1, 1) := by decide +kernel
theorem dX3_sureLabel_55 : decode cX3_sureLabel 55 = .ok (.iload_n 1, 1) := by decide +kernel
theorem dX3_sureLabel_56 : decode cX3_sureLabel 56 = .ok (.ishl, 1) := by decide +kernel
theorem dX3_sureLabel_57 : decode cX3_sureLabel 57 = .ok (.iconst (-1), 1) := by decide +kernel
theorem dX3_sureLabel_58 : decode cX3_sureLabel 58 = .ok (.ixor, 1) := by decide +kernel
theorem dX3_sureLabel_59 : decode cX3_sureLabel 59 = .ok (.iand, 1) := by decide +kernel
theorem dX3_sureLabel_60 : decode cX3_sureLabel 60 = .ok (.ior, 1) := by decide +kernel
theorem dX3_sureLabel_61 : decode cX3_sureLabel 61 = .ok (.istore_n 3, 1) := by decide +kernel
theorem dX3_sureLabel_62 : decode cX3_sureLabel 62 = .ok (.iinc 4 1, 3) := by decide +kernel
theorem dX3_sureLabel_65 : decode cX3_sureLabel 65 = .ok (.goto (-48), 3) := by decide +kernel
theorem dX3_sureLabel_68 : decode cX3_sureLabel 68 = .ok (.iconst 0, 1) := by decide +kernel
theorem dX3_sureLabel_69 : decode cX3_sureLabel 69 = .ok (.istore 4, 2) := by decide +kernel
theorem dX3_sureLabel_71 : decode cX3_sureLabel 71 = .ok (.iload 4, 2) := by decide +kernel
theorem dX3_sureLabel_73 : decode cX3_sureLabel 73 = .ok (.aload_n 0, 1) := by decide +kernel
theorem dX3_sureLabel_74 : decode cX3_sureLabel 74 = .ok (.getfield 19, 3) := by decide +kernel
theorem dX3_sureLabel_77 : decode cX3_sureLabel 77 = .ok (.getfield 123, 3) := by decide +kernel
theorem dX3_sureLabel_80 : decode cX3_sureLabel 80 = .ok (.if_icmp .ge 20, 3) := by decide +kernel
theorem dX3_sureLabel_83 : decode cX3_sureLabel 83 = .ok (.iload_n 3, 1) := by decide +kernel
theorem dX3_sureLabel_84 : decode cX3_sureLabel 84 = .ok (.iconst 1, 1) := by decide +kernel
theorem dX3_sureLabel_85 : decode cX3_sureLabel 85 = .ok (.iload 4, 2) := by decide +kernel
theorem dX3_sureLabel_87 : decode cX3_sureLabel 87 = .ok (.ishl, 1) := by decide +kernel
theorem dX3_sureLabel_88 : decode cX3_sureLabel 88 = .ok (.if_icmp .ne 6, 3) := by decide +kernel
theorem dX3_sureLabel_91 : decode cX3_sureLabel 91 = .ok (.iload 4, 2) := by decide +kernel
theorem dX3_sureLabel_93 : decode cX3_sureLabel 93 = .ok (.ireturn, 1) := by decide +kernel
theorem dX3_sureLabel_94 : decode cX3_sureLabel 94 = .ok (.iinc 4 1, 3) := by decide +kernel
theorem dX3_sureLabel_97 : decode cX3_sureLabel 97 = .ok (.goto (-26), 3) := by decide +kernel
theorem dX3_sureLabel_100 : decode cX3_sureLabel 100 = .ok (.bipush (-9), 2) := by decide +kernel
theorem dX3_sureLabel_102 : decode cX3_sureLabel 102 = .ok (.ireturn, 1) := by decide +kernel
theorem dX3_markOfAct_0 : decode cX3_markOfAct 0 = .ok (.aload_n 0, 1) := by decide +kernel
theorem dX3_markOfAct_1 : decode cX3_markOfAct 1 = .ok (.dup, 1) := by decide +kernel
theorem dX3_markOfAct_2 : decode cX3_markOfAct 2 = .ok (.getfield 54, 3) := by decide +kernel
theorem dX3_markOfAct_5 : decode cX3_markOfAct 5 = .ok (.lconst 1, 1) := by decide +kernel
theorem dX3_markOfAct_6 : decode cX3_markOfAct 6 = .ok (.ladd, 1) := by decide +kernel
theorem dX3_markOfAct_7 : decode cX3_markOfAct 7 = .ok (.putfield 54, 3) := by decide +kernel
theorem dX3_markOfAct_10 : decode cX3_markOfAct 10 = .ok (.aload_n 0, 1) := by decide +kernel
theorem dX3_markOfAct_11 : decode cX3_markOfAct 11 = .ok (.getfield 19, 3) := by decide +kernel
theorem dX3_markOfAct_14 : decode cX3_markOfAct 14 = .ok (.getfield 98, 3) := by decide +kernel
theorem dX3_markOfAct_17 : decode cX3_markOfAct 17 = .ok (.iload_n 1, 1) := by decide +kernel
theorem dX3_markOfAct_18 : decode cX3_markOfAct 18 = .ok (.iaload, 1) := by decide +kernel
theorem dX3_markOfAct_19 : decode cX3_markOfAct 19 = .ok (.ireturn, 1) := by decide +kernel
theorem dX3_markOfTreaty_0 : decode cX3_markOfTreaty 0 = .ok (.aload_n 0, 1) := by decide +kernel
theorem dX3_markOfTreaty_1 : decode cX3_markOfTreaty 1 = .ok (.dup, 1) := by decide +kernel
theorem dX3_markOfTreaty_2 : decode cX3_markOfTreaty 2 = .ok (.getfield 54, 3) := by decide +kernel
theorem dX3_markOfTreaty_5 : decode cX3_markOfTreaty 5 = .ok (.ldc2_w 245, 3) := by decide +kernel
theorem dX3_markOfTreaty_8 : decode cX3_markOfTreaty 8 = .ok (.ladd, 1) := by decide +kernel
theorem dX3_markOfTreaty_9 : decode cX3_markOfTreaty 9 = .ok (.putfield 54, 3) := by decide +kernel
theorem dX3_markOfTreaty_12 : decode cX3_markOfTreaty 12 = .ok (.aload_n 0, 1) := by decide +kernel
theorem dX3_markOfTreaty_13 : decode cX3_markOfTreaty 13 = .ok (.iload_n 1, 1) := by decide +kernel
theorem dX3_markOfTreaty_14 : decode cX3_markOfTreaty 14 = .ok (.invokevirtual 195, 3) := by decide +kernel
theorem dX3_markOfTreaty_17 : decode cX3_markOfTreaty 17 = .ok (.aload_n 0, 1) := by decide +kernel
theorem dX3_markOfTreaty_18 : decode cX3_markOfTreaty 18 = .ok (.getfield 19, 3) := by decide +kernel
theorem dX3_markOfTreaty_21 : decode cX3_markOfTreaty 21 = .ok (.iload_n 1, 1) := by decide +kernel
theorem dX3_markOfTreaty_22 : decode cX3_markOfTreaty 22 = .ok (.invokevirtual 101, 3) := by decide +kernel
theorem dX3_markOfTreaty_25 : decode cX3_markOfTreaty 25 = .ok (.invokestatic 183, 3) := by decide +kernel
theorem dX3_markOfTreaty_28 : decode cX3_markOfTreaty 28 = .ok (.iadd, 1) := by decide +kernel
theorem dX3_markOfTreaty_29 : decode cX3_markOfTreaty 29 = .ok (.ireturn, 1) := by decide +kernel
theorem dX3_markOfWar_0 : decode cX3_markOfWar 0 = .ok (.aload_n 0, 1) := by decide +kernel
theorem dX3_markOfWar_1 : decode cX3_markOfWar 1 = .ok (.dup, 1) := by decide +kernel
theorem dX3_markOfWar_2 : decode cX3_markOfWar 2 = .ok (.getfield 54, 3) := by decide +kernel
theorem dX3_markOfWar_5 : decode cX3_markOfWar 5 = .ok (.ldc2_w 247, 3) := by decide +kernel
theorem dX3_markOfWar_8 : decode cX3_markOfWar 8 = .ok (.ladd, 1) := by decide +kernel
theorem dX3_markOfWar_9 : decode cX3_markOfWar 9 = .ok (.putfield 54, 3) := by decide +kernel
theorem dX3_markOfWar_12 : decode cX3_markOfWar 12 = .ok (.iconst 0, 1) := by decide +kernel
theorem dX3_markOfWar_13 : decode cX3_markOfWar 13 = .ok (.istore_n 2, 1) := by decide +kernel
theorem dX3_markOfWar_14 : decode cX3_markOfWar 14 = .ok (.iconst 0, 1) := by decide +kernel
theorem dX3_markOfWar_15 : decode cX3_markOfWar 15 = .ok (.istore_n 3, 1) := by decide +kernel
theorem dX3_markOfWar_16 : decode cX3_markOfWar 16 = .ok (.iload_n 3, 1) := by decide +kernel
theorem dX3_markOfWar_17 : decode cX3_markOfWar 17 = .ok (.aload_n 0, 1) := by decide +kernel
theorem dX3_markOfWar_18 : decode cX3_markOfWar 18 = .ok (.getfield 19, 3) := by decide +kernel
theorem dX3_markOfWar_21 : decode cX3_markOfWar 21 = .ok (.getfield 123, 3) := by decide +kernel
theorem dX3_markOfWar_24 : decode cX3_markOfWar 24 = .ok (.if_icmp .ge 21, 3) := by decide +kernel
theorem dX3_markOfWar_27 : decode cX3_markOfWar 27 = .ok (.iload_n 2, 1) := by decide +kernel
theorem dX3_markOfWar_28 : decode cX3_markOfWar 28 = .ok (.aload_n 0, 1) := by decide +kernel
theorem dX3_markOfWar_29 : decode cX3_markOfWar 29 = .ok (.getfield 19, 3) := by decide +kernel
theorem dX3_markOfWar_32 : decode cX3_markOfWar 32 = .ok (.iload_n 1, 1) := by decide +kernel
theorem dX3_markOfWar_33 : decode cX3_markOfWar 33 = .ok (.iload_n 3, 1) := by decide +kernel
theorem dX3_markOfWar_34 : decode cX3_markOfWar 34 = .ok (.invokevirtual 110, 3) := by decide +kernel
theorem dX3_markOfWar_37 : decode cX3_markOfWar 37 = .ok (.iadd, 1) := by decide +kernel
theorem dX3_markOfWar_38 : decode cX3_markOfWar 38 = .ok (.istore_n 2, 1) := by decide +kernel
theorem dX3_markOfWar_39 : decode cX3_markOfWar 39 = .ok (.iinc 3 1, 3) := by decide +kernel
theorem dX3_markOfWar_42 : decode cX3_markOfWar 42 = .ok (.goto (-26), 3) := by decide +kernel
theorem dX3_markOfWar_45 : decode cX3_markOfWar 45 = .ok (.aload_n 0, 1) := by decide +kernel
theorem dX3_markOfWar_46 : decode cX3_markOfWar 46 = .ok (.iload_n 1, 1) := by decide +kernel
theorem dX3_markOfWar_47 : decode cX3_markOfWar 47 = .ok (.invokevirtual 195, 3) := by decide +kernel
theorem dX3_markOfWar_50 : decode cX3_markOfWar 50 = .ok (.iload_n 2, 1) := by decide +kernel
theorem dX3_markOfWar_51 : decode cX3_markOfWar 51 = .ok (.isub, 1) := by decide +kernel
theorem dX3_markOfWar_52 : decode cX3_markOfWar 52 = .ok (.ireturn, 1) := by decide +kernel
theorem dX3_markOfPardon_0 : decode cX3_markOfPardon 0 = .ok (.aload_n 0, 1) := by decide +kernel
theorem dX3_markOfPardon_1 : decode cX3_markOfPardon 1 = .ok (.dup, 1) := by decide +kernel
theorem dX3_markOfPardon_2 : decode cX3_markOfPardon 2 = .ok (.getfield 54, 3) := by decide +kernel
theorem dX3_markOfPardon_5 : decode cX3_markOfPardon 5 = .ok (.ldc2_w 249, 3) := by decide +kernel
theorem dX3_markOfPardon_8 : decode cX3_markOfPardon 8 = .ok (.ladd, 1) := by decide +kernel
theorem dX3_markOfPardon_9 : decode cX3_markOfPardon 9 = .ok (.putfield 54, 3) := by decide +kernel
theorem dX3_markOfPardon_12 : decode cX3_markOfPardon 12 = .ok (.aload_n 0, 1) := by decide +kernel
theorem dX3_markOfPardon_13 : decode cX3_markOfPardon 13 = .ok (.iload_n 1, 1) := by decide +kernel
theorem dX3_markOfPardon_14 : decode cX3_markOfPardon 14 = .ok (.invokevirtual 198, 3) := by decide +kernel
theorem dX3_markOfPardon_17 : decode cX3_markOfPardon 17 = .ok (.iconst 2, 1) := by decide +kernel
theorem dX3_markOfPardon_18 : decode cX3_markOfPardon 18 = .ok (.imul, 1) := by decide +kernel
theorem dX3_markOfPardon_19 : decode cX3_markOfPardon 19 = .ok (.ireturn, 1) := by decide +kernel
theorem dX3_markOfHunt_0 : decode cX3_markOfHunt 0 = .ok (.aload_n 0, 1) := by decide +kernel
theorem dX3_markOfHunt_1 : decode cX3_markOfHunt 1 = .ok (.dup, 1) := by decide +kernel
theorem dX3_markOfHunt_2 : decode cX3_markOfHunt 2 = .ok (.getfield 54, 3) := by decide +kernel
theorem dX3_markOfHunt_5 : decode cX3_markOfHunt 5 = .ok (.ldc2_w 251, 3) := by decide +kernel
theorem dX3_markOfHunt_8 : decode cX3_markOfHunt 8 = .ok (.ladd, 1) := by decide +kernel
theorem dX3_markOfHunt_9 : decode cX3_markOfHunt 9 = .ok (.putfield 54, 3) := by decide +kernel
theorem dX3_markOfHunt_12 : decode cX3_markOfHunt 12 = .ok (.aload_n 0, 1) := by decide +kernel
theorem dX3_markOfHunt_13 : decode cX3_markOfHunt 13 = .ok (.iload_n 1, 1) := by decide +kernel
theorem dX3_markOfHunt_14 : decode cX3_markOfHunt 14 = .ok (.invokevirtual 201, 3) := by decide +kernel
theorem dX3_markOfHunt_17 : decode cX3_markOfHunt 17 = .ok (.aload_n 0, 1) := by decide +kernel
theorem dX3_markOfHunt_18 : decode cX3_markOfHunt 18 = .ok (.getfield 29, 3) := by decide +kernel
theorem dX3_markOfHunt_21 : decode cX3_markOfHunt 21 = .ok (.getfield 139, 3) := by decide +kernel
theorem dX3_markOfHunt_24 : decode cX3_markOfHunt 24 = .ok (.iadd, 1) := by decide +kernel
theorem dX3_markOfHunt_25 : decode cX3_markOfHunt 25 = .ok (.ireturn, 1) := by decide +kernel
theorem dX3_markOfBreath_0 : decode cX3_markOfBreath 0 = .ok (.aload_n 0, 1) := by decide +kernel
theorem dX3_markOfBreath_1 : decode cX3_markOfBreath 1 = .ok (.dup, 1) := by decide +kernel
theorem dX3_markOfBreath_2 : decode cX3_markOfBreath 2 = .ok (.getfield 54, 3) := by decide +kernel
theorem dX3_markOfBreath_5 : decode cX3_markOfBreath 5 = .ok (.ldc2_w 253, 3) := by decide +kernel
theorem dX3_markOfBreath_8 : decode cX3_markOfBreath 8 = .ok (.ladd, 1) := by decide +kernel
theorem dX3_markOfBreath_9 : decode cX3_markOfBreath 9 = .ok (.putfield 54, 3) := by decide +kernel
theorem dX3_markOfBreath_12 : decode cX3_markOfBreath 12 = .ok (.aload_n 0, 1) := by decide +kernel
theorem dX3_markOfBreath_13 : decode cX3_markOfBreath 13 = .ok (.iload_n 1, 1) := by decide +kernel
theorem dX3_markOfBreath_14 : decode cX3_markOfBreath 14 = .ok (.invokevirtual 195, 3) := by decide +kernel
theorem dX3_markOfBreath_17 : decode cX3_markOfBreath 17 = .ok (.aload_n 0, 1) := by decide +kernel
theorem dX3_markOfBreath_18 : decode cX3_markOfBreath 18 = .ok (.getfield 29, 3) := by decide +kernel
theorem dX3_markOfBreath_21 : decode cX3_markOfBreath 21 = .ok (.getfield 142, 3) := by decide +kernel
theorem dX3_markOfBreath_24 : decode cX3_markOfBreath 24 = .ok (.iadd, 1) := by decide +kernel
theorem dX3_markOfBreath_25 : decode cX3_markOfBreath 25 = .ok (.ireturn, 1) := by decide +kernel
