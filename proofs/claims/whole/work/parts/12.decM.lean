theorem d_M_init_0 : decode b_M_init 0 = .ok (.aload_n 0, 1) := by decide +kernel
theorem d_M_init_1 : decode b_M_init 1 = .ok (.invokespecial 1, 3) := by decide +kernel
theorem d_M_init_4 : decode b_M_init 4 = .ok (.aload_n 0, 1) := by decide +kernel
theorem d_M_init_5 : decode b_M_init 5 = .ok (.bipush 64, 2) := by decide +kernel
theorem d_M_init_7 : decode b_M_init 7 = .ok (.newarray .int, 2) := by decide +kernel
theorem d_M_init_9 : decode b_M_init 9 = .ok (.putfield 7, 3) := by decide +kernel
theorem d_M_init_12 : decode b_M_init 12 = .ok (.aload_n 0, 1) := by decide +kernel
theorem d_M_init_13 : decode b_M_init 13 = .ok (.bipush 64, 2) := by decide +kernel
theorem d_M_init_15 : decode b_M_init 15 = .ok (.newarray .int, 2) := by decide +kernel
theorem d_M_init_17 : decode b_M_init 17 = .ok (.putfield 13, 3) := by decide +kernel
theorem d_M_init_20 : decode b_M_init 20 = .ok (.aload_n 0, 1) := by decide +kernel
theorem d_M_init_21 : decode b_M_init 21 = .ok (.bipush 64, 2) := by decide +kernel
theorem d_M_init_23 : decode b_M_init 23 = .ok (.newarray .int, 2) := by decide +kernel
theorem d_M_init_25 : decode b_M_init 25 = .ok (.putfield 16, 3) := by decide +kernel
theorem d_M_init_28 : decode b_M_init 28 = .ok (.aload_n 0, 1) := by decide +kernel
theorem d_M_init_29 : decode b_M_init 29 = .ok (.bipush 64, 2) := by decide +kernel
theorem d_M_init_31 : decode b_M_init 31 = .ok (.newarray .int, 2) := by decide +kernel
theorem d_M_init_33 : decode b_M_init 33 = .ok (.putfield 19, 3) := by decide +kernel
theorem d_M_init_36 : decode b_M_init 36 = .ok (.aload_n 0, 1) := by decide +kernel
theorem d_M_init_37 : decode b_M_init 37 = .ok (.bipush 64, 2) := by decide +kernel
theorem d_M_init_39 : decode b_M_init 39 = .ok (.newarray .int, 2) := by decide +kernel
theorem d_M_init_41 : decode b_M_init 41 = .ok (.putfield 22, 3) := by decide +kernel
theorem d_M_init_44 : decode b_M_init 44 = .ok (.aload_n 0, 1) := by decide +kernel
theorem d_M_init_45 : decode b_M_init 45 = .ok (.bipush 64, 2) := by decide +kernel
theorem d_M_init_47 : decode b_M_init 47 = .ok (.newarray .int, 2) := by decide +kernel
theorem d_M_init_49 : decode b_M_init 49 = .ok (.putfield 25, 3) := by decide +kernel
theorem d_M_init_52 : decode b_M_init 52 = .ok (.aload_n 0, 1) := by decide +kernel
theorem d_M_init_53 : decode b_M_init 53 = .ok (.bipush 6, 2) := by decide +kernel
theorem d_M_init_55 : decode b_M_init 55 = .ok (.newarray .int, 2) := by decide +kernel
theorem d_M_init_57 : decode b_M_init 57 = .ok (.putfield 28, 3) := by decide +kernel
theorem d_M_init_60 : decode b_M_init 60 = .ok (.aload_n 0, 1) := by decide +kernel
theorem d_M_init_61 : decode b_M_init 61 = .ok (.bipush 64, 2) := by decide +kernel
theorem d_M_init_63 : decode b_M_init 63 = .ok (.newarray .int, 2) := by decide +kernel
theorem d_M_init_65 : decode b_M_init 65 = .ok (.putfield 31, 3) := by decide +kernel
theorem d_M_init_68 : decode b_M_init 68 = .ok (.aload_n 0, 1) := by decide +kernel
theorem d_M_init_69 : decode b_M_init 69 = .ok (.sipush 1536, 3) := by decide +kernel
theorem d_M_init_72 : decode b_M_init 72 = .ok (.newarray .int, 2) := by decide +kernel
theorem d_M_init_74 : decode b_M_init 74 = .ok (.putfield 34, 3) := by decide +kernel
theorem d_M_init_77 : decode b_M_init 77 = .ok (.aload_n 0, 1) := by decide +kernel
theorem d_M_init_78 : decode b_M_init 78 = .ok (.sipush 1536, 3) := by decide +kernel
theorem d_M_init_81 : decode b_M_init 81 = .ok (.newarray .int, 2) := by decide +kernel
theorem d_M_init_83 : decode b_M_init 83 = .ok (.putfield 37, 3) := by decide +kernel
theorem d_M_init_86 : decode b_M_init 86 = .ok (.aload_n 0, 1) := by decide +kernel
theorem d_M_init_87 : decode b_M_init 87 = .ok (.sipush 1536, 3) := by decide +kernel
theorem d_M_init_90 : decode b_M_init 90 = .ok (.newarray .int, 2) := by decide +kernel
theorem d_M_init_92 : decode b_M_init 92 = .ok (.putfield 40, 3) := by decide +kernel
theorem d_M_init_95 : decode b_M_init 95 = .ok (.return_, 1) := by decide +kernel
theorem d_M_thrown_0 : decode b_M_thrown 0 = .ok (.aload_n 0, 1) := by decide +kernel
theorem d_M_thrown_1 : decode b_M_thrown 1 = .ok (.getfield 43, 3) := by decide +kernel
theorem d_M_thrown_4 : decode b_M_thrown 4 = .ok (.ireturn, 1) := by decide +kernel
theorem d_M_seed_0 : decode b_M_seed 0 = .ok (.aload_n 0, 1) := by decide +kernel
theorem d_M_seed_1 : decode b_M_seed 1 = .ok (.iconst 0, 1) := by decide +kernel
theorem d_M_seed_2 : decode b_M_seed 2 = .ok (.putfield 43, 3) := by decide +kernel
theorem d_M_seed_5 : decode b_M_seed 5 = .ok (.aload_n 0, 1) := by decide +kernel
theorem d_M_seed_6 : decode b_M_seed 6 = .ok (.lload_n 1, 1) := by decide +kernel
theorem d_M_seed_7 : decode b_M_seed 7 = .ok (.putfield 54, 3) := by decide +kernel
theorem d_M_seed_10 : decode b_M_seed 10 = .ok (.return_, 1) := by decide +kernel
theorem d_M_thing_0 : decode b_M_thing 0 = .ok (.aload_n 0, 1) := by decide +kernel
theorem d_M_thing_1 : decode b_M_thing 1 = .ok (.iload_n 1, 1) := by decide +kernel
theorem d_M_thing_2 : decode b_M_thing 2 = .ok (.i2l, 1) := by decide +kernel
theorem d_M_thing_3 : decode b_M_thing 3 = .ok (.lconst 0, 1) := by decide +kernel
theorem d_M_thing_4 : decode b_M_thing 4 = .ok (.ldc2_w 58, 3) := by decide +kernel
theorem d_M_thing_7 : decode b_M_thing 7 = .ok (.invokestatic 50, 3) := by decide +kernel
theorem d_M_thing_10 : decode b_M_thing 10 = .ok (.ifCond .eq 15, 3) := by decide +kernel
theorem d_M_thing_13 : decode b_M_thing 13 = .ok (.iload_n 2, 1) := by decide +kernel
theorem d_M_thing_14 : decode b_M_thing 14 = .ok (.i2l, 1) := by decide +kernel
theorem d_M_thing_15 : decode b_M_thing 15 = .ok (.lconst 0, 1) := by decide +kernel
theorem d_M_thing_16 : decode b_M_thing 16 = .ok (.ldc2_w 60, 3) := by decide +kernel
theorem d_M_thing_19 : decode b_M_thing 19 = .ok (.invokestatic 50, 3) := by decide +kernel
theorem d_M_thing_22 : decode b_M_thing 22 = .ok (.ifCond .ne 7, 3) := by decide +kernel
theorem d_M_thing_25 : decode b_M_thing 25 = .ok (.iconst 1, 1) := by decide +kernel
theorem d_M_thing_26 : decode b_M_thing 26 = .ok (.goto 4, 3) := by decide +kernel
theorem d_M_thing_29 : decode b_M_thing 29 = .ok (.iconst 0, 1) := by decide +kernel
theorem d_M_thing_30 : decode b_M_thing 30 = .ok (.aload_n 0, 1) := by decide +kernel
theorem d_M_thing_31 : decode b_M_thing 31 = .ok (.getfield 47, 3) := by decide +kernel
theorem d_M_thing_34 : decode b_M_thing 34 = .ok (.bipush 64, 2) := by decide +kernel
theorem d_M_thing_36 : decode b_M_thing 36 = .ok (.if_icmp .ne 7, 3) := by decide +kernel
theorem d_M_thing_39 : decode b_M_thing 39 = .ok (.iconst 1, 1) := by decide +kernel
theorem d_M_thing_40 : decode b_M_thing 40 = .ok (.goto 4, 3) := by decide +kernel
theorem d_M_thing_43 : decode b_M_thing 43 = .ok (.iconst 0, 1) := by decide +kernel
theorem d_M_thing_44 : decode b_M_thing 44 = .ok (.iconst 0, 1) := by decide +kernel
theorem d_M_thing_45 : decode b_M_thing 45 = .ok (.invokevirtual 62, 3) := by decide +kernel
theorem d_M_thing_48 : decode b_M_thing 48 = .ok (.ifCond .eq 5, 3) := by decide +kernel
theorem d_M_thing_51 : decode b_M_thing 51 = .ok (.iconst 0, 1) := by decide +kernel
theorem d_M_thing_52 : decode b_M_thing 52 = .ok (.ireturn, 1) := by decide +kernel
theorem d_M_thing_53 : decode b_M_thing 53 = .ok (.aload_n 0, 1) := by decide +kernel
theorem d_M_thing_54 : decode b_M_thing 54 = .ok (.getfield 7, 3) := by decide +kernel
theorem d_M_thing_57 : decode b_M_thing 57 = .ok (.aload_n 0, 1) := by decide +kernel
theorem d_M_thing_58 : decode b_M_thing 58 = .ok (.getfield 47, 3) := by decide +kernel
theorem d_M_thing_61 : decode b_M_thing 61 = .ok (.iload_n 1, 1) := by decide +kernel
theorem d_M_thing_62 : decode b_M_thing 62 = .ok (.iastore, 1) := by decide +kernel
theorem d_M_thing_63 : decode b_M_thing 63 = .ok (.aload_n 0, 1) := by decide +kernel
theorem d_M_thing_64 : decode b_M_thing 64 = .ok (.getfield 13, 3) := by decide +kernel
theorem d_M_thing_67 : decode b_M_thing 67 = .ok (.aload_n 0, 1) := by decide +kernel
theorem d_M_thing_68 : decode b_M_thing 68 = .ok (.getfield 47, 3) := by decide +kernel
theorem d_M_thing_71 : decode b_M_thing 71 = .ok (.iload_n 2, 1) := by decide +kernel
theorem d_M_thing_72 : decode b_M_thing 72 = .ok (.iastore, 1) := by decide +kernel
theorem d_M_thing_73 : decode b_M_thing 73 = .ok (.aload_n 0, 1) := by decide +kernel
theorem d_M_thing_74 : decode b_M_thing 74 = .ok (.getfield 22, 3) := by decide +kernel
theorem d_M_thing_77 : decode b_M_thing 77 = .ok (.aload_n 0, 1) := by decide +kernel
theorem d_M_thing_78 : decode b_M_thing 78 = .ok (.getfield 47, 3) := by decide +kernel
theorem d_M_thing_81 : decode b_M_thing 81 = .ok (.iconst (-1), 1) := by decide +kernel
theorem d_M_thing_82 : decode b_M_thing 82 = .ok (.iastore, 1) := by decide +kernel
theorem d_M_thing_83 : decode b_M_thing 83 = .ok (.aload_n 0, 1) := by decide +kernel
theorem d_M_thing_84 : decode b_M_thing 84 = .ok (.dup, 1) := by decide +kernel
theorem d_M_thing_85 : decode b_M_thing 85 = .ok (.getfield 47, 3) := by decide +kernel
theorem d_M_thing_88 : decode b_M_thing 88 = .ok (.iconst 1, 1) := by decide +kernel
theorem d_M_thing_89 : decode b_M_thing 89 = .ok (.iadd, 1) := by decide +kernel
theorem d_M_thing_90 : decode b_M_thing 90 = .ok (.putfield 47, 3) := by decide +kernel
theorem d_M_thing_93 : decode b_M_thing 93 = .ok (.aload_n 0, 1) := by decide +kernel
theorem d_M_thing_94 : decode b_M_thing 94 = .ok (.getfield 47, 3) := by decide +kernel
theorem d_M_thing_97 : decode b_M_thing 97 = .ok (.iconst 1, 1) := by decide +kernel
theorem d_M_thing_98 : decode b_M_thing 98 = .ok (.isub, 1) := by decide +kernel
theorem d_M_thing_99 : decode b_M_thing 99 = .ok (.ireturn, 1) := by decide +kernel
theorem d_M_in_0 : decode b_M_in 0 = .ok (.lload_n 0, 1) := by decide +kernel
theorem d_M_in_1 : decode b_M_in 1 = .ok (.lload_n 2, 1) := by decide +kernel
theorem d_M_in_2 : decode b_M_in 2 = .ok (.lcmp, 1) := by decide +kernel
theorem d_M_in_3 : decode b_M_in 3 = .ok (.ifCond .lt 14, 3) := by decide +kernel
theorem d_M_in_6 : decode b_M_in 6 = .ok (.lload_n 0, 1) := by decide +kernel
theorem d_M_in_7 : decode b_M_in 7 = .ok (.lload 4, 2) := by decide +kernel
theorem d_M_in_9 : decode b_M_in 9 = .ok (.lcmp, 1) := by decide +kernel
theorem d_M_in_10 : decode b_M_in 10 = .ok (.ifCond .gt 7, 3) := by decide +kernel
theorem d_M_in_13 : decode b_M_in 13 = .ok (.iconst 1, 1) := by decide +kernel
theorem d_M_in_14 : decode b_M_in 14 = .ok (.goto 4, 3) := by decide +kernel
theorem d_M_in_17 : decode b_M_in 17 = .ok (.iconst 0, 1) := by decide +kernel
theorem d_M_in_18 : decode b_M_in 18 = .ok (.ireturn, 1) := by decide +kernel
theorem d_M_fails_0 : decode b_M_fails 0 = .ok (.aload_n 0, 1) := by decide +kernel
theorem d_M_fails_1 : decode b_M_fails 1 = .ok (.iload_n 1, 1) := by decide +kernel
theorem d_M_fails_2 : decode b_M_fails 2 = .ok (.ifCond .eq 7, 3) := by decide +kernel
theorem d_M_fails_5 : decode b_M_fails 5 = .ok (.iconst 1, 1) := by decide +kernel
theorem d_M_fails_6 : decode b_M_fails 6 = .ok (.goto 20, 3) := by decide +kernel
theorem d_M_fails_9 : decode b_M_fails 9 = .ok (.iload_n 2, 1) := by decide +kernel
theorem d_M_fails_10 : decode b_M_fails 10 = .ok (.ifCond .eq 7, 3) := by decide +kernel
theorem d_M_fails_13 : decode b_M_fails 13 = .ok (.iconst 2, 1) := by decide +kernel
theorem d_M_fails_14 : decode b_M_fails 14 = .ok (.goto 12, 3) := by decide +kernel
theorem d_M_fails_17 : decode b_M_fails 17 = .ok (.iload_n 3, 1) := by decide +kernel
theorem d_M_fails_18 : decode b_M_fails 18 = .ok (.ifCond .eq 7, 3) := by decide +kernel
theorem d_M_fails_21 : decode b_M_fails 21 = .ok (.iconst 3, 1) := by decide +kernel
theorem d_M_fails_22 : decode b_M_fails 22 = .ok (.goto 4, 3) := by decide +kernel
theorem d_M_fails_25 : decode b_M_fails 25 = .ok (.iconst 0, 1) := by decide +kernel
theorem d_M_fails_26 : decode b_M_fails 26 = .ok (.putfield 43, 3) := by decide +kernel
theorem d_M_fails_29 : decode b_M_fails 29 = .ok (.aload_n 0, 1) := by decide +kernel
theorem d_M_fails_30 : decode b_M_fails 30 = .ok (.getfield 43, 3) := by decide +kernel
theorem d_M_fails_33 : decode b_M_fails 33 = .ok (.ifCond .le 7, 3) := by decide +kernel
theorem d_M_fails_36 : decode b_M_fails 36 = .ok (.iconst 1, 1) := by decide +kernel
theorem d_M_fails_37 : decode b_M_fails 37 = .ok (.goto 4, 3) := by decide +kernel
theorem d_M_fails_40 : decode b_M_fails 40 = .ok (.iconst 0, 1) := by decide +kernel
theorem d_M_fails_41 : decode b_M_fails 41 = .ok (.ireturn, 1) := by decide +kernel
theorem d_M_list_0 : decode b_M_list 0 = .ok (.aload_n 0, 1) := by decide +kernel
theorem d_M_list_1 : decode b_M_list 1 = .ok (.iload_n 1, 1) := by decide +kernel
theorem d_M_list_2 : decode b_M_list 2 = .ok (.i2l, 1) := by decide +kernel
theorem d_M_list_3 : decode b_M_list 3 = .ok (.lconst 0, 1) := by decide +kernel
theorem d_M_list_4 : decode b_M_list 4 = .ok (.aload_n 0, 1) := by decide +kernel
theorem d_M_list_5 : decode b_M_list 5 = .ok (.getfield 47, 3) := by decide +kernel
theorem d_M_list_8 : decode b_M_list 8 = .ok (.i2l, 1) := by decide +kernel
theorem d_M_list_9 : decode b_M_list 9 = .ok (.invokestatic 50, 3) := by decide +kernel
theorem d_M_list_12 : decode b_M_list 12 = .ok (.ifCond .ne 7, 3) := by decide +kernel
theorem d_M_list_15 : decode b_M_list 15 = .ok (.iconst 1, 1) := by decide +kernel
theorem d_M_list_16 : decode b_M_list 16 = .ok (.goto 4, 3) := by decide +kernel
theorem d_M_list_19 : decode b_M_list 19 = .ok (.iconst 0, 1) := by decide +kernel
theorem d_M_list_20 : decode b_M_list 20 = .ok (.iconst 0, 1) := by decide +kernel
theorem d_M_list_21 : decode b_M_list 21 = .ok (.iconst 0, 1) := by decide +kernel
theorem d_M_list_22 : decode b_M_list 22 = .ok (.invokevirtual 62, 3) := by decide +kernel
theorem d_M_list_25 : decode b_M_list 25 = .ok (.ifCond .eq 5, 3) := by decide +kernel
theorem d_M_list_28 : decode b_M_list 28 = .ok (.iconst 0, 1) := by decide +kernel
theorem d_M_list_29 : decode b_M_list 29 = .ok (.ireturn, 1) := by decide +kernel
theorem d_M_list_30 : decode b_M_list 30 = .ok (.aload_n 0, 1) := by decide +kernel
theorem d_M_list_31 : decode b_M_list 31 = .ok (.iconst 0, 1) := by decide +kernel
theorem d_M_list_32 : decode b_M_list 32 = .ok (.putfield 81, 3) := by decide +kernel
theorem d_M_list_35 : decode b_M_list 35 = .ok (.iconst 0, 1) := by decide +kernel
theorem d_M_list_36 : decode b_M_list 36 = .ok (.istore_n 2, 1) := by decide +kernel
theorem d_M_list_37 : decode b_M_list 37 = .ok (.iload_n 2, 1) := by decide +kernel
theorem d_M_list_38 : decode b_M_list 38 = .ok (.aload_n 0, 1) := by decide +kernel
theorem d_M_list_39 : decode b_M_list 39 = .ok (.getfield 47, 3) := by decide +kernel
theorem d_M_list_42 : decode b_M_list 42 = .ok (.if_icmp .ge 16, 3) := by decide +kernel
theorem d_M_list_45 : decode b_M_list 45 = .ok (.aload_n 0, 1) := by decide +kernel
theorem d_M_list_46 : decode b_M_list 46 = .ok (.getfield 22, 3) := by decide +kernel
theorem d_M_list_49 : decode b_M_list 49 = .ok (.iload_n 2, 1) := by decide +kernel
theorem d_M_list_50 : decode b_M_list 50 = .ok (.iconst (-1), 1) := by decide +kernel
theorem d_M_list_51 : decode b_M_list 51 = .ok (.iastore, 1) := by decide +kernel
theorem d_M_list_52 : decode b_M_list 52 = .ok (.iinc 2 1, 3) := by decide +kernel
theorem d_M_list_55 : decode b_M_list 55 = .ok (.goto (-18), 3) := by decide +kernel
theorem d_M_list_58 : decode b_M_list 58 = .ok (.iload_n 1, 1) := by decide +kernel
theorem d_M_list_59 : decode b_M_list 59 = .ok (.ifCond .le 27, 3) := by decide +kernel
theorem d_M_list_62 : decode b_M_list 62 = .ok (.aload_n 0, 1) := by decide +kernel
theorem d_M_list_63 : decode b_M_list 63 = .ok (.iload_n 1, 1) := by decide +kernel
theorem d_M_list_64 : decode b_M_list 64 = .ok (.invokevirtual 84, 3) := by decide +kernel
theorem d_M_list_67 : decode b_M_list 67 = .ok (.iconst 0, 1) := by decide +kernel
theorem d_M_list_68 : decode b_M_list 68 = .ok (.istore_n 2, 1) := by decide +kernel
theorem d_M_list_69 : decode b_M_list 69 = .ok (.iload_n 2, 1) := by decide +kernel
theorem d_M_list_70 : decode b_M_list 70 = .ok (.bipush 6, 2) := by decide +kernel
theorem d_M_list_72 : decode b_M_list 72 = .ok (.if_icmp .ge 14, 3) := by decide +kernel
theorem d_M_list_75 : decode b_M_list 75 = .ok (.aload_n 0, 1) := by decide +kernel
theorem d_M_list_76 : decode b_M_list 76 = .ok (.iload_n 2, 1) := by decide +kernel
theorem d_M_list_77 : decode b_M_list 77 = .ok (.invokevirtual 88, 3) := by decide +kernel
theorem d_M_list_80 : decode b_M_list 80 = .ok (.iinc 2 1, 3) := by decide +kernel
theorem d_M_list_83 : decode b_M_list 83 = .ok (.goto (-14), 3) := by decide +kernel
theorem d_M_list_86 : decode b_M_list 86 = .ok (.iload_n 1, 1) := by decide +kernel
theorem d_M_list_87 : decode b_M_list 87 = .ok (.ireturn, 1) := by decide +kernel
theorem d_M_divide_0 : decode b_M_divide 0 = .ok (.iload_n 1, 1) := by decide +kernel
theorem d_M_divide_1 : decode b_M_divide 1 = .ok (.istore_n 2, 1) := by decide +kernel
theorem d_M_divide_2 : decode b_M_divide 2 = .ok (.iconst 0, 1) := by decide +kernel
theorem d_M_divide_3 : decode b_M_divide 3 = .ok (.istore_n 3, 1) := by decide +kernel
theorem d_M_divide_4 : decode b_M_divide 4 = .ok (.iload_n 3, 1) := by decide +kernel
theorem d_M_divide_5 : decode b_M_divide 5 = .ok (.bipush 6, 2) := by decide +kernel
theorem d_M_divide_7 : decode b_M_divide 7 = .ok (.if_icmp .ge 24, 3) := by decide +kernel
theorem d_M_divide_10 : decode b_M_divide 10 = .ok (.iload_n 2, 1) := by decide +kernel
theorem d_M_divide_11 : decode b_M_divide 11 = .ok (.iload_n 1, 1) := by decide +kernel
theorem d_M_divide_12 : decode b_M_divide 12 = .ok (.aload_n 0, 1) := by decide +kernel
theorem d_M_divide_13 : decode b_M_divide 13 = .ok (.iload_n 3, 1) := by decide +kernel
theorem d_M_divide_14 : decode b_M_divide 14 = .ok (.invokevirtual 70, 3) := by decide +kernel
theorem d_M_divide_17 : decode b_M_divide 17 = .ok (.imul, 1) := by decide +kernel
theorem d_M_divide_18 : decode b_M_divide 18 = .ok (.aload_n 0, 1) := by decide +kernel
theorem d_M_divide_19 : decode b_M_divide 19 = .ok (.getfield 47, 3) := by decide +kernel
theorem d_M_divide_22 : decode b_M_divide 22 = .ok (.idiv, 1) := by decide +kernel
theorem d_M_divide_23 : decode b_M_divide 23 = .ok (.isub, 1) := by decide +kernel
theorem d_M_divide_24 : decode b_M_divide 24 = .ok (.istore_n 2, 1) := by decide +kernel
theorem d_M_divide_25 : decode b_M_divide 25 = .ok (.iinc 3 1, 3) := by decide +kernel
theorem d_M_divide_28 : decode b_M_divide 28 = .ok (.goto (-24), 3) := by decide +kernel
theorem d_M_divide_31 : decode b_M_divide 31 = .ok (.iconst 0, 1) := by decide +kernel
theorem d_M_divide_32 : decode b_M_divide 32 = .ok (.istore_n 3, 1) := by decide +kernel
theorem d_M_divide_33 : decode b_M_divide 33 = .ok (.iload_n 3, 1) := by decide +kernel
theorem d_M_divide_34 : decode b_M_divide 34 = .ok (.bipush 6, 2) := by decide +kernel
theorem d_M_divide_36 : decode b_M_divide 36 = .ok (.if_icmp .ge 118, 3) := by decide +kernel
theorem d_M_divide_39 : decode b_M_divide 39 = .ok (.iconst 0, 1) := by decide +kernel
theorem d_M_divide_40 : decode b_M_divide 40 = .ok (.istore 4, 2) := by decide +kernel
theorem d_M_divide_42 : decode b_M_divide 42 = .ok (.iconst 0, 1) := by decide +kernel
theorem d_M_divide_43 : decode b_M_divide 43 = .ok (.istore 5, 2) := by decide +kernel
theorem d_M_divide_45 : decode b_M_divide 45 = .ok (.iload 5, 2) := by decide +kernel
theorem d_M_divide_47 : decode b_M_divide 47 = .ok (.bipush 6, 2) := by decide +kernel
theorem d_M_divide_49 : decode b_M_divide 49 = .ok (.if_icmp .ge 69, 3) := by decide +kernel
theorem d_M_divide_52 : decode b_M_divide 52 = .ok (.aload_n 0, 1) := by decide +kernel
theorem d_M_divide_53 : decode b_M_divide 53 = .ok (.iload 5, 2) := by decide +kernel
theorem d_M_divide_55 : decode b_M_divide 55 = .ok (.iload_n 1, 1) := by decide +kernel
theorem d_M_divide_56 : decode b_M_divide 56 = .ok (.invokevirtual 74, 3) := by decide +kernel
theorem d_M_divide_59 : decode b_M_divide 59 = .ok (.aload_n 0, 1) := by decide +kernel
theorem d_M_divide_60 : decode b_M_divide 60 = .ok (.iload_n 3, 1) := by decide +kernel
theorem d_M_divide_61 : decode b_M_divide 61 = .ok (.iload_n 1, 1) := by decide +kernel
theorem d_M_divide_62 : decode b_M_divide 62 = .ok (.invokevirtual 74, 3) := by decide +kernel
theorem d_M_divide_65 : decode b_M_divide 65 = .ok (.if_icmp .gt 25, 3) := by decide +kernel
theorem d_M_divide_68 : decode b_M_divide 68 = .ok (.aload_n 0, 1) := by decide +kernel
theorem d_M_divide_69 : decode b_M_divide 69 = .ok (.iload 5, 2) := by decide +kernel
theorem d_M_divide_71 : decode b_M_divide 71 = .ok (.iload_n 1, 1) := by decide +kernel
theorem d_M_divide_72 : decode b_M_divide 72 = .ok (.invokevirtual 74, 3) := by decide +kernel
theorem d_M_divide_75 : decode b_M_divide 75 = .ok (.aload_n 0, 1) := by decide +kernel
theorem d_M_divide_76 : decode b_M_divide 76 = .ok (.iload_n 3, 1) := by decide +kernel
theorem d_M_divide_77 : decode b_M_divide 77 = .ok (.iload_n 1, 1) := by decide +kernel
theorem d_M_divide_78 : decode b_M_divide 78 = .ok (.invokevirtual 74, 3) := by decide +kernel
theorem d_M_divide_81 : decode b_M_divide 81 = .ok (.if_icmp .ne 13, 3) := by decide +kernel
theorem d_M_divide_84 : decode b_M_divide 84 = .ok (.iload 5, 2) := by decide +kernel
theorem d_M_divide_86 : decode b_M_divide 86 = .ok (.iload_n 3, 1) := by decide +kernel
theorem d_M_divide_87 : decode b_M_divide 87 = .ok (.if_icmp .ge 7, 3) := by decide +kernel
theorem d_M_divide_90 : decode b_M_divide 90 = .ok (.iconst 1, 1) := by decide +kernel
theorem d_M_divide_91 : decode b_M_divide 91 = .ok (.goto 4, 3) := by decide +kernel
theorem d_M_divide_94 : decode b_M_divide 94 = .ok (.iconst 0, 1) := by decide +kernel
theorem d_M_divide_95 : decode b_M_divide 95 = .ok (.istore 6, 2) := by decide +kernel
theorem d_M_divide_97 : decode b_M_divide 97 = .ok (.iload 4, 2) := by decide +kernel
theorem d_M_divide_99 : decode b_M_divide 99 = .ok (.iload 6, 2) := by decide +kernel
theorem d_M_divide_101 : decode b_M_divide 101 = .ok (.ifCond .eq 7, 3) := by decide +kernel
theorem d_M_divide_104 : decode b_M_divide 104 = .ok (.iconst 1, 1) := by decide +kernel
theorem d_M_divide_105 : decode b_M_divide 105 = .ok (.goto 4, 3) := by decide +kernel
theorem d_M_divide_108 : decode b_M_divide 108 = .ok (.iconst 0, 1) := by decide +kernel
theorem d_M_divide_109 : decode b_M_divide 109 = .ok (.iadd, 1) := by decide +kernel
theorem d_M_divide_110 : decode b_M_divide 110 = .ok (.istore 4, 2) := by decide +kernel
theorem d_M_divide_112 : decode b_M_divide 112 = .ok (.iinc 5 1, 3) := by decide +kernel
theorem d_M_divide_115 : decode b_M_divide 115 = .ok (.goto (-70), 3) := by decide +kernel
theorem d_M_divide_118 : decode b_M_divide 118 = .ok (.aload_n 0, 1) := by decide +kernel
theorem d_M_divide_119 : decode b_M_divide 119 = .ok (.getfield 28, 3) := by decide +kernel
theorem d_M_divide_122 : decode b_M_divide 122 = .ok (.iload_n 3, 1) := by decide +kernel
theorem d_M_divide_123 : decode b_M_divide 123 = .ok (.iload_n 1, 1) := by decide +kernel
theorem d_M_divide_124 : decode b_M_divide 124 = .ok (.aload_n 0, 1) := by decide +kernel
theorem d_M_divide_125 : decode b_M_divide 125 = .ok (.iload_n 3, 1) := by decide +kernel
theorem d_M_divide_126 : decode b_M_divide 126 = .ok (.invokevirtual 70, 3) := by decide +kernel
theorem d_M_divide_129 : decode b_M_divide 129 = .ok (.imul, 1) := by decide +kernel
theorem d_M_divide_130 : decode b_M_divide 130 = .ok (.aload_n 0, 1) := by decide +kernel
theorem d_M_divide_131 : decode b_M_divide 131 = .ok (.getfield 47, 3) := by decide +kernel
theorem d_M_divide_134 : decode b_M_divide 134 = .ok (.idiv, 1) := by decide +kernel
theorem d_M_divide_135 : decode b_M_divide 135 = .ok (.iload 4, 2) := by decide +kernel
theorem d_M_divide_137 : decode b_M_divide 137 = .ok (.iload_n 2, 1) := by decide +kernel
theorem d_M_divide_138 : decode b_M_divide 138 = .ok (.if_icmp .ge 7, 3) := by decide +kernel
theorem d_M_divide_141 : decode b_M_divide 141 = .ok (.iconst 1, 1) := by decide +kernel
theorem d_M_divide_142 : decode b_M_divide 142 = .ok (.goto 4, 3) := by decide +kernel
theorem d_M_divide_145 : decode b_M_divide 145 = .ok (.iconst 0, 1) := by decide +kernel
theorem d_M_divide_146 : decode b_M_divide 146 = .ok (.iadd, 1) := by decide +kernel
theorem d_M_divide_147 : decode b_M_divide 147 = .ok (.iastore, 1) := by decide +kernel
theorem d_M_divide_148 : decode b_M_divide 148 = .ok (.iinc 3 1, 3) := by decide +kernel
theorem d_M_divide_151 : decode b_M_divide 151 = .ok (.goto (-118), 3) := by decide +kernel
theorem d_M_divide_154 : decode b_M_divide 154 = .ok (.return_, 1) := by decide +kernel
theorem d_M_size_0 : decode b_M_size 0 = .ok (.iconst 0, 1) := by decide +kernel
theorem d_M_size_1 : decode b_M_size 1 = .ok (.istore_n 2, 1) := by decide +kernel
theorem d_M_size_2 : decode b_M_size 2 = .ok (.iconst 0, 1) := by decide +kernel
theorem d_M_size_3 : decode b_M_size 3 = .ok (.istore_n 3, 1) := by decide +kernel
theorem d_M_size_4 : decode b_M_size 4 = .ok (.iload_n 3, 1) := by decide +kernel
theorem d_M_size_5 : decode b_M_size 5 = .ok (.aload_n 0, 1) := by decide +kernel
theorem d_M_size_6 : decode b_M_size 6 = .ok (.getfield 47, 3) := by decide +kernel
theorem d_M_size_9 : decode b_M_size 9 = .ok (.if_icmp .ge 27, 3) := by decide +kernel
theorem d_M_size_12 : decode b_M_size 12 = .ok (.iload_n 2, 1) := by decide +kernel
theorem d_M_size_13 : decode b_M_size 13 = .ok (.aload_n 0, 1) := by decide +kernel
theorem d_M_size_14 : decode b_M_size 14 = .ok (.getfield 7, 3) := by decide +kernel
theorem d_M_size_17 : decode b_M_size 17 = .ok (.iload_n 3, 1) := by decide +kernel
theorem d_M_size_18 : decode b_M_size 18 = .ok (.iaload, 1) := by decide +kernel
theorem d_M_size_19 : decode b_M_size 19 = .ok (.iload_n 1, 1) := by decide +kernel
theorem d_M_size_20 : decode b_M_size 20 = .ok (.if_icmp .ne 7, 3) := by decide +kernel
theorem d_M_size_23 : decode b_M_size 23 = .ok (.iconst 1, 1) := by decide +kernel
theorem d_M_size_24 : decode b_M_size 24 = .ok (.goto 4, 3) := by decide +kernel
theorem d_M_size_27 : decode b_M_size 27 = .ok (.iconst 0, 1) := by decide +kernel
theorem d_M_size_28 : decode b_M_size 28 = .ok (.iadd, 1) := by decide +kernel
theorem d_M_size_29 : decode b_M_size 29 = .ok (.istore_n 2, 1) := by decide +kernel
theorem d_M_size_30 : decode b_M_size 30 = .ok (.iinc 3 1, 3) := by decide +kernel
theorem d_M_size_33 : decode b_M_size 33 = .ok (.goto (-29), 3) := by decide +kernel
theorem d_M_size_36 : decode b_M_size 36 = .ok (.iload_n 2, 1) := by decide +kernel
theorem d_M_size_37 : decode b_M_size 37 = .ok (.ireturn, 1) := by decide +kernel
theorem d_M_rest_0 : decode b_M_rest 0 = .ok (.iload_n 2, 1) := by decide +kernel
theorem d_M_rest_1 : decode b_M_rest 1 = .ok (.aload_n 0, 1) := by decide +kernel
theorem d_M_rest_2 : decode b_M_rest 2 = .ok (.iload_n 1, 1) := by decide +kernel
theorem d_M_rest_3 : decode b_M_rest 3 = .ok (.invokevirtual 70, 3) := by decide +kernel
theorem d_M_rest_6 : decode b_M_rest 6 = .ok (.imul, 1) := by decide +kernel
theorem d_M_rest_7 : decode b_M_rest 7 = .ok (.aload_n 0, 1) := by decide +kernel
theorem d_M_rest_8 : decode b_M_rest 8 = .ok (.getfield 47, 3) := by decide +kernel
theorem d_M_rest_11 : decode b_M_rest 11 = .ok (.irem, 1) := by decide +kernel
theorem d_M_rest_12 : decode b_M_rest 12 = .ok (.ireturn, 1) := by decide +kernel
theorem d_M_drawFrom_0 : decode b_M_drawFrom 0 = .ok (.iconst 0, 1) := by decide +kernel
theorem d_M_drawFrom_1 : decode b_M_drawFrom 1 = .ok (.istore_n 2, 1) := by decide +kernel
theorem d_M_drawFrom_2 : decode b_M_drawFrom 2 = .ok (.iconst 0, 1) := by decide +kernel
theorem d_M_drawFrom_3 : decode b_M_drawFrom 3 = .ok (.istore_n 3, 1) := by decide +kernel
theorem d_M_drawFrom_4 : decode b_M_drawFrom 4 = .ok (.iload_n 3, 1) := by decide +kernel
theorem d_M_drawFrom_5 : decode b_M_drawFrom 5 = .ok (.aload_n 0, 1) := by decide +kernel
theorem d_M_drawFrom_6 : decode b_M_drawFrom 6 = .ok (.getfield 47, 3) := by decide +kernel
theorem d_M_drawFrom_9 : decode b_M_drawFrom 9 = .ok (.if_icmp .ge 29, 3) := by decide +kernel
theorem d_M_drawFrom_12 : decode b_M_drawFrom 12 = .ok (.aload_n 0, 1) := by decide +kernel
theorem d_M_drawFrom_13 : decode b_M_drawFrom 13 = .ok (.getfield 7, 3) := by decide +kernel
theorem d_M_drawFrom_16 : decode b_M_drawFrom 16 = .ok (.iload_n 3, 1) := by decide +kernel
theorem d_M_drawFrom_17 : decode b_M_drawFrom 17 = .ok (.iaload, 1) := by decide +kernel
theorem d_M_drawFrom_18 : decode b_M_drawFrom 18 = .ok (.iload_n 1, 1) := by decide +kernel
theorem d_M_drawFrom_19 : decode b_M_drawFrom 19 = .ok (.if_icmp .ne 13, 3) := by decide +kernel
theorem d_M_drawFrom_22 : decode b_M_drawFrom 22 = .ok (.aload_n 0, 1) := by decide +kernel
theorem d_M_drawFrom_23 : decode b_M_drawFrom 23 = .ok (.getfield 25, 3) := by decide +kernel
theorem d_M_drawFrom_26 : decode b_M_drawFrom 26 = .ok (.iload_n 2, 1) := by decide +kernel
theorem d_M_drawFrom_27 : decode b_M_drawFrom 27 = .ok (.iload_n 3, 1) := by decide +kernel
theorem d_M_drawFrom_28 : decode b_M_drawFrom 28 = .ok (.iastore, 1) := by decide +kernel
theorem d_M_drawFrom_29 : decode b_M_drawFrom 29 = .ok (.iinc 2 1, 3) := by decide +kernel
theorem d_M_drawFrom_32 : decode b_M_drawFrom 32 = .ok (.iinc 3 1, 3) := by decide +kernel
theorem d_M_drawFrom_35 : decode b_M_drawFrom 35 = .ok (.goto (-31), 3) := by decide +kernel
theorem d_M_drawFrom_38 : decode b_M_drawFrom 38 = .ok (.iconst 0, 1) := by decide +kernel
theorem d_M_drawFrom_39 : decode b_M_drawFrom 39 = .ok (.istore_n 3, 1) := by decide +kernel
theorem d_M_drawFrom_40 : decode b_M_drawFrom 40 = .ok (.iload_n 3, 1) := by decide +kernel
theorem d_M_drawFrom_41 : decode b_M_drawFrom 41 = .ok (.aload_n 0, 1) := by decide +kernel
theorem d_M_drawFrom_42 : decode b_M_drawFrom 42 = .ok (.getfield 28, 3) := by decide +kernel
theorem d_M_drawFrom_45 : decode b_M_drawFrom 45 = .ok (.iload_n 1, 1) := by decide +kernel
theorem d_M_drawFrom_46 : decode b_M_drawFrom 46 = .ok (.iaload, 1) := by decide +kernel
theorem d_M_drawFrom_47 : decode b_M_drawFrom 47 = .ok (.if_icmp .ge 79, 3) := by decide +kernel
theorem d_M_drawFrom_50 : decode b_M_drawFrom 50 = .ok (.iload_n 3, 1) := by decide +kernel
theorem d_M_drawFrom_51 : decode b_M_drawFrom 51 = .ok (.aload_n 0, 1) := by decide +kernel
theorem d_M_drawFrom_52 : decode b_M_drawFrom 52 = .ok (.iload_n 2, 1) := by decide +kernel
theorem d_M_drawFrom_53 : decode b_M_drawFrom 53 = .ok (.iload_n 3, 1) := by decide +kernel
theorem d_M_drawFrom_54 : decode b_M_drawFrom 54 = .ok (.isub, 1) := by decide +kernel
theorem d_M_drawFrom_55 : decode b_M_drawFrom 55 = .ok (.invokevirtual 78, 3) := by decide +kernel
theorem d_M_drawFrom_58 : decode b_M_drawFrom 58 = .ok (.iadd, 1) := by decide +kernel
theorem d_M_drawFrom_59 : decode b_M_drawFrom 59 = .ok (.istore 4, 2) := by decide +kernel
theorem d_M_drawFrom_61 : decode b_M_drawFrom 61 = .ok (.aload_n 0, 1) := by decide +kernel
theorem d_M_drawFrom_62 : decode b_M_drawFrom 62 = .ok (.getfield 25, 3) := by decide +kernel
theorem d_M_drawFrom_65 : decode b_M_drawFrom 65 = .ok (.iload 4, 2) := by decide +kernel
theorem d_M_drawFrom_67 : decode b_M_drawFrom 67 = .ok (.iaload, 1) := by decide +kernel
theorem d_M_drawFrom_68 : decode b_M_drawFrom 68 = .ok (.istore 5, 2) := by decide +kernel
theorem d_M_drawFrom_70 : decode b_M_drawFrom 70 = .ok (.aload_n 0, 1) := by decide +kernel
theorem d_M_drawFrom_71 : decode b_M_drawFrom 71 = .ok (.getfield 25, 3) := by decide +kernel
theorem d_M_drawFrom_74 : decode b_M_drawFrom 74 = .ok (.iload 4, 2) := by decide +kernel
theorem d_M_drawFrom_76 : decode b_M_drawFrom 76 = .ok (.aload_n 0, 1) := by decide +kernel
theorem d_M_drawFrom_77 : decode b_M_drawFrom 77 = .ok (.getfield 25, 3) := by decide +kernel
theorem d_M_drawFrom_80 : decode b_M_drawFrom 80 = .ok (.iload_n 3, 1) := by decide +kernel
theorem d_M_drawFrom_81 : decode b_M_drawFrom 81 = .ok (.iaload, 1) := by decide +kernel
theorem d_M_drawFrom_82 : decode b_M_drawFrom 82 = .ok (.iastore, 1) := by decide +kernel
theorem d_M_drawFrom_83 : decode b_M_drawFrom 83 = .ok (.aload_n 0, 1) := by decide +kernel
theorem d_M_drawFrom_84 : decode b_M_drawFrom 84 = .ok (.getfield 25, 3) := by decide +kernel
theorem d_M_drawFrom_87 : decode b_M_drawFrom 87 = .ok (.iload_n 3, 1) := by decide +kernel
theorem d_M_drawFrom_88 : decode b_M_drawFrom 88 = .ok (.iload 5, 2) := by decide +kernel
theorem d_M_drawFrom_90 : decode b_M_drawFrom 90 = .ok (.iastore, 1) := by decide +kernel
theorem d_M_drawFrom_91 : decode b_M_drawFrom 91 = .ok (.aload_n 0, 1) := by decide +kernel
theorem d_M_drawFrom_92 : decode b_M_drawFrom 92 = .ok (.getfield 19, 3) := by decide +kernel
theorem d_M_drawFrom_95 : decode b_M_drawFrom 95 = .ok (.aload_n 0, 1) := by decide +kernel
theorem d_M_drawFrom_96 : decode b_M_drawFrom 96 = .ok (.getfield 81, 3) := by decide +kernel
theorem d_M_drawFrom_99 : decode b_M_drawFrom 99 = .ok (.iload 5, 2) := by decide +kernel
theorem d_M_drawFrom_101 : decode b_M_drawFrom 101 = .ok (.iastore, 1) := by decide +kernel
theorem d_M_drawFrom_102 : decode b_M_drawFrom 102 = .ok (.aload_n 0, 1) := by decide +kernel
theorem d_M_drawFrom_103 : decode b_M_drawFrom 103 = .ok (.dup, 1) := by decide +kernel
theorem d_M_drawFrom_104 : decode b_M_drawFrom 104 = .ok (.getfield 81, 3) := by decide +kernel
theorem d_M_drawFrom_107 : decode b_M_drawFrom 107 = .ok (.iconst 1, 1) := by decide +kernel
theorem d_M_drawFrom_108 : decode b_M_drawFrom 108 = .ok (.iadd, 1) := by decide +kernel
theorem d_M_drawFrom_109 : decode b_M_drawFrom 109 = .ok (.putfield 81, 3) := by decide +kernel
theorem d_M_drawFrom_112 : decode b_M_drawFrom 112 = .ok (.aload_n 0, 1) := by decide +kernel
theorem d_M_drawFrom_113 : decode b_M_drawFrom 113 = .ok (.getfield 22, 3) := by decide +kernel
theorem d_M_drawFrom_116 : decode b_M_drawFrom 116 = .ok (.iload 5, 2) := by decide +kernel
theorem d_M_drawFrom_118 : decode b_M_drawFrom 118 = .ok (.iconst 0, 1) := by decide +kernel
theorem d_M_drawFrom_119 : decode b_M_drawFrom 119 = .ok (.iastore, 1) := by decide +kernel
theorem d_M_drawFrom_120 : decode b_M_drawFrom 120 = .ok (.iinc 3 1, 3) := by decide +kernel
theorem d_M_drawFrom_123 : decode b_M_drawFrom 123 = .ok (.goto (-83), 3) := by decide +kernel
theorem d_M_drawFrom_126 : decode b_M_drawFrom 126 = .ok (.return_, 1) := by decide +kernel
theorem d_M_draw_0 : decode b_M_draw 0 = .ok (.aload_n 0, 1) := by decide +kernel
theorem d_M_draw_1 : decode b_M_draw 1 = .ok (.aload_n 0, 1) := by decide +kernel
theorem d_M_draw_2 : decode b_M_draw 2 = .ok (.getfield 54, 3) := by decide +kernel
theorem d_M_draw_5 : decode b_M_draw 5 = .ok (.ldc2_w 66, 3) := by decide +kernel
theorem d_M_draw_8 : decode b_M_draw 8 = .ok (.lmul, 1) := by decide +kernel
theorem d_M_draw_9 : decode b_M_draw 9 = .ok (.ldc2_w 68, 3) := by decide +kernel
theorem d_M_draw_12 : decode b_M_draw 12 = .ok (.ladd, 1) := by decide +kernel
theorem d_M_draw_13 : decode b_M_draw 13 = .ok (.putfield 54, 3) := by decide +kernel
theorem d_M_draw_16 : decode b_M_draw 16 = .ok (.aload_n 0, 1) := by decide +kernel
theorem d_M_draw_17 : decode b_M_draw 17 = .ok (.getfield 54, 3) := by decide +kernel
theorem d_M_draw_20 : decode b_M_draw 20 = .ok (.bipush 33, 2) := by decide +kernel
theorem d_M_draw_22 : decode b_M_draw 22 = .ok (.lushr, 1) := by decide +kernel
theorem d_M_draw_23 : decode b_M_draw 23 = .ok (.iload_n 1, 1) := by decide +kernel
theorem d_M_draw_24 : decode b_M_draw 24 = .ok (.i2l, 1) := by decide +kernel
theorem d_M_draw_25 : decode b_M_draw 25 = .ok (.lrem, 1) := by decide +kernel
theorem d_M_draw_26 : decode b_M_draw 26 = .ok (.l2i, 1) := by decide +kernel
theorem d_M_draw_27 : decode b_M_draw 27 = .ok (.ireturn, 1) := by decide +kernel
theorem d_M_drawn_0 : decode b_M_drawn 0 = .ok (.aload_n 0, 1) := by decide +kernel
theorem d_M_drawn_1 : decode b_M_drawn 1 = .ok (.iload_n 1, 1) := by decide +kernel
theorem d_M_drawn_2 : decode b_M_drawn 2 = .ok (.i2l, 1) := by decide +kernel
theorem d_M_drawn_3 : decode b_M_drawn 3 = .ok (.lconst 0, 1) := by decide +kernel
theorem d_M_drawn_4 : decode b_M_drawn 4 = .ok (.aload_n 0, 1) := by decide +kernel
theorem d_M_drawn_5 : decode b_M_drawn 5 = .ok (.getfield 81, 3) := by decide +kernel
theorem d_M_drawn_8 : decode b_M_drawn 8 = .ok (.iconst 1, 1) := by decide +kernel
theorem d_M_drawn_9 : decode b_M_drawn 9 = .ok (.isub, 1) := by decide +kernel
theorem d_M_drawn_10 : decode b_M_drawn 10 = .ok (.i2l, 1) := by decide +kernel
theorem d_M_drawn_11 : decode b_M_drawn 11 = .ok (.invokestatic 50, 3) := by decide +kernel
theorem d_M_drawn_14 : decode b_M_drawn 14 = .ok (.ifCond .ne 7, 3) := by decide +kernel
theorem d_M_drawn_17 : decode b_M_drawn 17 = .ok (.iconst 1, 1) := by decide +kernel
theorem d_M_drawn_18 : decode b_M_drawn 18 = .ok (.goto 4, 3) := by decide +kernel
theorem d_M_drawn_21 : decode b_M_drawn 21 = .ok (.iconst 0, 1) := by decide +kernel
theorem d_M_drawn_22 : decode b_M_drawn 22 = .ok (.iconst 0, 1) := by decide +kernel
theorem d_M_drawn_23 : decode b_M_drawn 23 = .ok (.iconst 0, 1) := by decide +kernel
theorem d_M_drawn_24 : decode b_M_drawn 24 = .ok (.invokevirtual 62, 3) := by decide +kernel
theorem d_M_drawn_27 : decode b_M_drawn 27 = .ok (.ifCond .eq 7, 3) := by decide +kernel
theorem d_M_drawn_30 : decode b_M_drawn 30 = .ok (.iconst 0, 1) := by decide +kernel
theorem d_M_drawn_31 : decode b_M_drawn 31 = .ok (.goto 9, 3) := by decide +kernel
theorem d_M_drawn_34 : decode b_M_drawn 34 = .ok (.aload_n 0, 1) := by decide +kernel
theorem d_M_drawn_35 : decode b_M_drawn 35 = .ok (.getfield 19, 3) := by decide +kernel
theorem d_M_drawn_38 : decode b_M_drawn 38 = .ok (.iload_n 1, 1) := by decide +kernel
theorem d_M_drawn_39 : decode b_M_drawn 39 = .ok (.iaload, 1) := by decide +kernel
theorem d_M_drawn_40 : decode b_M_drawn 40 = .ok (.ireturn, 1) := by decide +kernel
theorem d_M_check_0 : decode b_M_check 0 = .ok (.aload_n 0, 1) := by decide +kernel
theorem d_M_check_1 : decode b_M_check 1 = .ok (.iload_n 1, 1) := by decide +kernel
theorem d_M_check_2 : decode b_M_check 2 = .ok (.invokevirtual 91, 3) := by decide +kernel
theorem d_M_check_5 : decode b_M_check 5 = .ok (.istore 5, 2) := by decide +kernel
theorem d_M_check_7 : decode b_M_check 7 = .ok (.iload 5, 2) := by decide +kernel
theorem d_M_check_9 : decode b_M_check 9 = .ok (.ifCond .eq 40, 3) := by decide +kernel
theorem d_M_check_12 : decode b_M_check 12 = .ok (.iload_n 2, 1) := by decide +kernel
theorem d_M_check_13 : decode b_M_check 13 = .ok (.i2l, 1) := by decide +kernel
theorem d_M_check_14 : decode b_M_check 14 = .ok (.lconst 0, 1) := by decide +kernel
theorem d_M_check_15 : decode b_M_check 15 = .ok (.ldc2_w 95, 3) := by decide +kernel
theorem d_M_check_18 : decode b_M_check 18 = .ok (.invokestatic 50, 3) := by decide +kernel
theorem d_M_check_21 : decode b_M_check 21 = .ok (.ifCond .eq 28, 3) := by decide +kernel
theorem d_M_check_24 : decode b_M_check 24 = .ok (.iload_n 3, 1) := by decide +kernel
theorem d_M_check_25 : decode b_M_check 25 = .ok (.i2l, 1) := by decide +kernel
theorem d_M_check_26 : decode b_M_check 26 = .ok (.lconst 0, 1) := by decide +kernel
theorem d_M_check_27 : decode b_M_check 27 = .ok (.ldc2_w 95, 3) := by decide +kernel
theorem d_M_check_30 : decode b_M_check 30 = .ok (.invokestatic 50, 3) := by decide +kernel
theorem d_M_check_33 : decode b_M_check 33 = .ok (.ifCond .eq 16, 3) := by decide +kernel
theorem d_M_check_36 : decode b_M_check 36 = .ok (.iload 4, 2) := by decide +kernel
theorem d_M_check_38 : decode b_M_check 38 = .ok (.i2l, 1) := by decide +kernel
theorem d_M_check_39 : decode b_M_check 39 = .ok (.lconst 0, 1) := by decide +kernel
theorem d_M_check_40 : decode b_M_check 40 = .ok (.ldc2_w 60, 3) := by decide +kernel
theorem d_M_check_43 : decode b_M_check 43 = .ok (.invokestatic 50, 3) := by decide +kernel
theorem d_M_check_46 : decode b_M_check 46 = .ok (.ifCond .ne 7, 3) := by decide +kernel
theorem d_M_check_49 : decode b_M_check 49 = .ok (.iconst 1, 1) := by decide +kernel
theorem d_M_check_50 : decode b_M_check 50 = .ok (.goto 4, 3) := by decide +kernel
theorem d_M_check_53 : decode b_M_check 53 = .ok (.iconst 0, 1) := by decide +kernel
theorem d_M_check_54 : decode b_M_check 54 = .ok (.istore 6, 2) := by decide +kernel
theorem d_M_check_56 : decode b_M_check 56 = .ok (.aload_n 0, 1) := by decide +kernel
theorem d_M_check_57 : decode b_M_check 57 = .ok (.iload 6, 2) := by decide +kernel
theorem d_M_check_59 : decode b_M_check 59 = .ok (.iload 5, 2) := by decide +kernel
theorem d_M_check_61 : decode b_M_check 61 = .ok (.ifCond .eq 16, 3) := by decide +kernel
theorem d_M_check_64 : decode b_M_check 64 = .ok (.aload_n 0, 1) := by decide +kernel
theorem d_M_check_65 : decode b_M_check 65 = .ok (.getfield 22, 3) := by decide +kernel
theorem d_M_check_68 : decode b_M_check 68 = .ok (.iload_n 1, 1) := by decide +kernel
theorem d_M_check_69 : decode b_M_check 69 = .ok (.iaload, 1) := by decide +kernel
theorem d_M_check_70 : decode b_M_check 70 = .ok (.ifCond .ge 7, 3) := by decide +kernel
theorem d_M_check_73 : decode b_M_check 73 = .ok (.iconst 1, 1) := by decide +kernel
theorem d_M_check_74 : decode b_M_check 74 = .ok (.goto 4, 3) := by decide +kernel
theorem d_M_check_77 : decode b_M_check 77 = .ok (.iconst 0, 1) := by decide +kernel
theorem d_M_check_78 : decode b_M_check 78 = .ok (.iconst 0, 1) := by decide +kernel
theorem d_M_check_79 : decode b_M_check 79 = .ok (.invokevirtual 62, 3) := by decide +kernel
theorem d_M_check_82 : decode b_M_check 82 = .ok (.ifCond .eq 5, 3) := by decide +kernel
theorem d_M_check_85 : decode b_M_check 85 = .ok (.iconst 0, 1) := by decide +kernel
theorem d_M_check_86 : decode b_M_check 86 = .ok (.ireturn, 1) := by decide +kernel
theorem d_M_check_87 : decode b_M_check 87 = .ok (.iload_n 2, 1) := by decide +kernel
theorem d_M_check_88 : decode b_M_check 88 = .ok (.iload_n 3, 1) := by decide +kernel
theorem d_M_check_89 : decode b_M_check 89 = .ok (.if_icmp .ne 5, 3) := by decide +kernel
theorem d_M_check_92 : decode b_M_check 92 = .ok (.iconst 2, 1) := by decide +kernel
theorem d_M_check_93 : decode b_M_check 93 = .ok (.ireturn, 1) := by decide +kernel
theorem d_M_check_94 : decode b_M_check 94 = .ok (.aload_n 0, 1) := by decide +kernel
theorem d_M_check_95 : decode b_M_check 95 = .ok (.getfield 13, 3) := by decide +kernel
theorem d_M_check_98 : decode b_M_check 98 = .ok (.iload_n 1, 1) := by decide +kernel
theorem d_M_check_99 : decode b_M_check 99 = .ok (.iaload, 1) := by decide +kernel
theorem d_M_check_100 : decode b_M_check 100 = .ok (.iload 4, 2) := by decide +kernel
theorem d_M_check_102 : decode b_M_check 102 = .ok (.if_icmp .eq 7, 3) := by decide +kernel
theorem d_M_check_105 : decode b_M_check 105 = .ok (.iconst 1, 1) := by decide +kernel
theorem d_M_check_106 : decode b_M_check 106 = .ok (.goto 4, 3) := by decide +kernel
theorem d_M_check_109 : decode b_M_check 109 = .ok (.iconst 0, 1) := by decide +kernel
theorem d_M_check_110 : decode b_M_check 110 = .ok (.istore 7, 2) := by decide +kernel
theorem d_M_check_112 : decode b_M_check 112 = .ok (.aload_n 0, 1) := by decide +kernel
theorem d_M_check_113 : decode b_M_check 113 = .ok (.getfield 22, 3) := by decide +kernel
theorem d_M_check_116 : decode b_M_check 116 = .ok (.iload_n 1, 1) := by decide +kernel
theorem d_M_check_117 : decode b_M_check 117 = .ok (.iload 7, 2) := by decide +kernel
theorem d_M_check_119 : decode b_M_check 119 = .ok (.ifCond .eq 7, 3) := by decide +kernel
theorem d_M_check_122 : decode b_M_check 122 = .ok (.iconst 2, 1) := by decide +kernel
theorem d_M_check_123 : decode b_M_check 123 = .ok (.goto 4, 3) := by decide +kernel
theorem d_M_check_126 : decode b_M_check 126 = .ok (.iconst 1, 1) := by decide +kernel
theorem d_M_check_127 : decode b_M_check 127 = .ok (.iastore, 1) := by decide +kernel
theorem d_M_check_128 : decode b_M_check 128 = .ok (.aload_n 0, 1) := by decide +kernel
theorem d_M_check_129 : decode b_M_check 129 = .ok (.getfield 13, 3) := by decide +kernel
theorem d_M_check_132 : decode b_M_check 132 = .ok (.iload_n 1, 1) := by decide +kernel
theorem d_M_check_133 : decode b_M_check 133 = .ok (.iload 4, 2) := by decide +kernel
theorem d_M_check_135 : decode b_M_check 135 = .ok (.iastore, 1) := by decide +kernel
theorem d_M_check_136 : decode b_M_check 136 = .ok (.iload 7, 2) := by decide +kernel
theorem d_M_check_138 : decode b_M_check 138 = .ok (.ifCond .eq 7, 3) := by decide +kernel
theorem d_M_check_141 : decode b_M_check 141 = .ok (.iconst 1, 1) := by decide +kernel
theorem d_M_check_142 : decode b_M_check 142 = .ok (.goto 4, 3) := by decide +kernel
theorem d_M_check_145 : decode b_M_check 145 = .ok (.iconst 0, 1) := by decide +kernel
theorem d_M_check_146 : decode b_M_check 146 = .ok (.ireturn, 1) := by decide +kernel
theorem d_M_isThing_0 : decode b_M_isThing 0 = .ok (.iload_n 1, 1) := by decide +kernel
theorem d_M_isThing_1 : decode b_M_isThing 1 = .ok (.i2l, 1) := by decide +kernel
theorem d_M_isThing_2 : decode b_M_isThing 2 = .ok (.lconst 0, 1) := by decide +kernel
theorem d_M_isThing_3 : decode b_M_isThing 3 = .ok (.aload_n 0, 1) := by decide +kernel
theorem d_M_isThing_4 : decode b_M_isThing 4 = .ok (.getfield 47, 3) := by decide +kernel
theorem d_M_isThing_7 : decode b_M_isThing 7 = .ok (.iconst 1, 1) := by decide +kernel
theorem d_M_isThing_8 : decode b_M_isThing 8 = .ok (.isub, 1) := by decide +kernel
theorem d_M_isThing_9 : decode b_M_isThing 9 = .ok (.i2l, 1) := by decide +kernel
theorem d_M_isThing_10 : decode b_M_isThing 10 = .ok (.invokestatic 50, 3) := by decide +kernel
theorem d_M_isThing_13 : decode b_M_isThing 13 = .ok (.ireturn, 1) := by decide +kernel
theorem d_M_gone_0 : decode b_M_gone 0 = .ok (.aload_n 0, 1) := by decide +kernel
theorem d_M_gone_1 : decode b_M_gone 1 = .ok (.iload_n 1, 1) := by decide +kernel
theorem d_M_gone_2 : decode b_M_gone 2 = .ok (.invokevirtual 91, 3) := by decide +kernel
theorem d_M_gone_5 : decode b_M_gone 5 = .ok (.istore_n 2, 1) := by decide +kernel
theorem d_M_gone_6 : decode b_M_gone 6 = .ok (.aload_n 0, 1) := by decide +kernel
theorem d_M_gone_7 : decode b_M_gone 7 = .ok (.iload_n 2, 1) := by decide +kernel
theorem d_M_gone_8 : decode b_M_gone 8 = .ok (.ifCond .ne 7, 3) := by decide +kernel
theorem d_M_gone_11 : decode b_M_gone 11 = .ok (.iconst 1, 1) := by decide +kernel
theorem d_M_gone_12 : decode b_M_gone 12 = .ok (.goto 4, 3) := by decide +kernel
theorem d_M_gone_15 : decode b_M_gone 15 = .ok (.iconst 0, 1) := by decide +kernel
theorem d_M_gone_16 : decode b_M_gone 16 = .ok (.iload_n 2, 1) := by decide +kernel
theorem d_M_gone_17 : decode b_M_gone 17 = .ok (.ifCond .eq 16, 3) := by decide +kernel
theorem d_M_gone_20 : decode b_M_gone 20 = .ok (.aload_n 0, 1) := by decide +kernel
theorem d_M_gone_21 : decode b_M_gone 21 = .ok (.getfield 22, 3) := by decide +kernel
theorem d_M_gone_24 : decode b_M_gone 24 = .ok (.iload_n 1, 1) := by decide +kernel
theorem d_M_gone_25 : decode b_M_gone 25 = .ok (.iaload, 1) := by decide +kernel
theorem d_M_gone_26 : decode b_M_gone 26 = .ok (.ifCond .ge 7, 3) := by decide +kernel
theorem d_M_gone_29 : decode b_M_gone 29 = .ok (.iconst 1, 1) := by decide +kernel
theorem d_M_gone_30 : decode b_M_gone 30 = .ok (.goto 4, 3) := by decide +kernel
theorem d_M_gone_33 : decode b_M_gone 33 = .ok (.iconst 0, 1) := by decide +kernel
theorem d_M_gone_34 : decode b_M_gone 34 = .ok (.iconst 0, 1) := by decide +kernel
theorem d_M_gone_35 : decode b_M_gone 35 = .ok (.invokevirtual 62, 3) := by decide +kernel
theorem d_M_gone_38 : decode b_M_gone 38 = .ok (.ifCond .eq 5, 3) := by decide +kernel
theorem d_M_gone_41 : decode b_M_gone 41 = .ok (.iconst 0, 1) := by decide +kernel
theorem d_M_gone_42 : decode b_M_gone 42 = .ok (.ireturn, 1) := by decide +kernel
theorem d_M_gone_43 : decode b_M_gone 43 = .ok (.aload_n 0, 1) := by decide +kernel
theorem d_M_gone_44 : decode b_M_gone 44 = .ok (.getfield 22, 3) := by decide +kernel
theorem d_M_gone_47 : decode b_M_gone 47 = .ok (.iload_n 1, 1) := by decide +kernel
theorem d_M_gone_48 : decode b_M_gone 48 = .ok (.iaload, 1) := by decide +kernel
theorem d_M_gone_49 : decode b_M_gone 49 = .ok (.iconst 3, 1) := by decide +kernel
theorem d_M_gone_50 : decode b_M_gone 50 = .ok (.if_icmp .eq 7, 3) := by decide +kernel
theorem d_M_gone_53 : decode b_M_gone 53 = .ok (.iconst 1, 1) := by decide +kernel
theorem d_M_gone_54 : decode b_M_gone 54 = .ok (.goto 4, 3) := by decide +kernel
theorem d_M_gone_57 : decode b_M_gone 57 = .ok (.iconst 0, 1) := by decide +kernel
theorem d_M_gone_58 : decode b_M_gone 58 = .ok (.istore_n 3, 1) := by decide +kernel
theorem d_M_gone_59 : decode b_M_gone 59 = .ok (.aload_n 0, 1) := by decide +kernel
theorem d_M_gone_60 : decode b_M_gone 60 = .ok (.getfield 22, 3) := by decide +kernel
theorem d_M_gone_63 : decode b_M_gone 63 = .ok (.iload_n 1, 1) := by decide +kernel
theorem d_M_gone_64 : decode b_M_gone 64 = .ok (.iconst 3, 1) := by decide +kernel
theorem d_M_gone_65 : decode b_M_gone 65 = .ok (.iastore, 1) := by decide +kernel
theorem d_M_gone_66 : decode b_M_gone 66 = .ok (.iload_n 3, 1) := by decide +kernel
theorem d_M_gone_67 : decode b_M_gone 67 = .ok (.ireturn, 1) := by decide +kernel
theorem d_M_share_0 : decode b_M_share 0 = .ok (.aload_n 0, 1) := by decide +kernel
theorem d_M_share_1 : decode b_M_share 1 = .ok (.iload_n 1, 1) := by decide +kernel
theorem d_M_share_2 : decode b_M_share 2 = .ok (.i2l, 1) := by decide +kernel
theorem d_M_share_3 : decode b_M_share 3 = .ok (.lconst 0, 1) := by decide +kernel
theorem d_M_share_4 : decode b_M_share 4 = .ok (.ldc2_w 58, 3) := by decide +kernel
theorem d_M_share_7 : decode b_M_share 7 = .ok (.invokestatic 50, 3) := by decide +kernel
theorem d_M_share_10 : decode b_M_share 10 = .ok (.ifCond .eq 13, 3) := by decide +kernel
theorem d_M_share_13 : decode b_M_share 13 = .ok (.iload_n 2, 1) := by decide +kernel
theorem d_M_share_14 : decode b_M_share 14 = .ok (.i2l, 1) := by decide +kernel
theorem d_M_share_15 : decode b_M_share 15 = .ok (.lconst 0, 1) := by decide +kernel
theorem d_M_share_16 : decode b_M_share 16 = .ok (.lconst 1, 1) := by decide +kernel
theorem d_M_share_17 : decode b_M_share 17 = .ok (.invokestatic 50, 3) := by decide +kernel
theorem d_M_share_20 : decode b_M_share 20 = .ok (.ifCond .ne 7, 3) := by decide +kernel
theorem d_M_share_23 : decode b_M_share 23 = .ok (.iconst 1, 1) := by decide +kernel
theorem d_M_share_24 : decode b_M_share 24 = .ok (.goto 4, 3) := by decide +kernel
theorem d_M_share_27 : decode b_M_share 27 = .ok (.iconst 0, 1) := by decide +kernel
theorem d_M_share_28 : decode b_M_share 28 = .ok (.iconst 0, 1) := by decide +kernel
theorem d_M_share_29 : decode b_M_share 29 = .ok (.iconst 0, 1) := by decide +kernel
theorem d_M_share_30 : decode b_M_share 30 = .ok (.invokevirtual 62, 3) := by decide +kernel
theorem d_M_share_33 : decode b_M_share 33 = .ok (.ifCond .eq 5, 3) := by decide +kernel
theorem d_M_share_36 : decode b_M_share 36 = .ok (.iconst 0, 1) := by decide +kernel
theorem d_M_share_37 : decode b_M_share 37 = .ok (.ireturn, 1) := by decide +kernel
theorem d_M_share_38 : decode b_M_share 38 = .ok (.aload_n 0, 1) := by decide +kernel
theorem d_M_share_39 : decode b_M_share 39 = .ok (.iload_n 1, 1) := by decide +kernel
theorem d_M_share_40 : decode b_M_share 40 = .ok (.iconst 1, 1) := by decide +kernel
theorem d_M_share_41 : decode b_M_share 41 = .ok (.iconst 1, 1) := by decide +kernel
theorem d_M_share_42 : decode b_M_share 42 = .ok (.invokevirtual 97, 3) := by decide +kernel
theorem d_M_share_45 : decode b_M_share 45 = .ok (.istore_n 3, 1) := by decide +kernel
theorem d_M_share_46 : decode b_M_share 46 = .ok (.aload_n 0, 1) := by decide +kernel
theorem d_M_share_47 : decode b_M_share 47 = .ok (.iload_n 1, 1) := by decide +kernel
theorem d_M_share_48 : decode b_M_share 48 = .ok (.iconst 1, 1) := by decide +kernel
theorem d_M_share_49 : decode b_M_share 49 = .ok (.iconst 3, 1) := by decide +kernel
theorem d_M_share_50 : decode b_M_share 50 = .ok (.invokevirtual 97, 3) := by decide +kernel
theorem d_M_share_53 : decode b_M_share 53 = .ok (.istore 4, 2) := by decide +kernel
theorem d_M_share_55 : decode b_M_share 55 = .ok (.iload 4, 2) := by decide +kernel
theorem d_M_share_57 : decode b_M_share 57 = .ok (.ifCond .le 8, 3) := by decide +kernel
theorem d_M_share_60 : decode b_M_share 60 = .ok (.iload 4, 2) := by decide +kernel
theorem d_M_share_62 : decode b_M_share 62 = .ok (.goto 4, 3) := by decide +kernel
theorem d_M_share_65 : decode b_M_share 65 = .ok (.iconst 1, 1) := by decide +kernel
theorem d_M_share_66 : decode b_M_share 66 = .ok (.istore 5, 2) := by decide +kernel
theorem d_M_share_68 : decode b_M_share 68 = .ok (.iload_n 3, 1) := by decide +kernel
theorem d_M_share_69 : decode b_M_share 69 = .ok (.iload 5, 2) := by decide +kernel
theorem d_M_share_71 : decode b_M_share 71 = .ok (.irem, 1) := by decide +kernel
theorem d_M_share_72 : decode b_M_share 72 = .ok (.ifCond .ne 11, 3) := by decide +kernel
theorem d_M_share_75 : decode b_M_share 75 = .ok (.iload 4, 2) := by decide +kernel
theorem d_M_share_77 : decode b_M_share 77 = .ok (.iload 5, 2) := by decide +kernel
theorem d_M_share_79 : decode b_M_share 79 = .ok (.irem, 1) := by decide +kernel
theorem d_M_share_80 : decode b_M_share 80 = .ok (.ifCond .eq 9, 3) := by decide +kernel
theorem d_M_share_83 : decode b_M_share 83 = .ok (.iinc 5 (-1), 3) := by decide +kernel
theorem d_M_share_86 : decode b_M_share 86 = .ok (.goto (-18), 3) := by decide +kernel
theorem d_M_share_89 : decode b_M_share 89 = .ok (.iload 4, 2) := by decide +kernel
theorem d_M_share_91 : decode b_M_share 91 = .ok (.ifCond .ne 7, 3) := by decide +kernel
theorem d_M_share_94 : decode b_M_share 94 = .ok (.iload_n 2, 1) := by decide +kernel
theorem d_M_share_95 : decode b_M_share 95 = .ok (.goto 19, 3) := by decide +kernel
theorem d_M_share_98 : decode b_M_share 98 = .ok (.iload_n 2, 1) := by decide +kernel
theorem d_M_share_99 : decode b_M_share 99 = .ok (.ifCond .ne 10, 3) := by decide +kernel
theorem d_M_share_102 : decode b_M_share 102 = .ok (.iload_n 3, 1) := by decide +kernel
theorem d_M_share_103 : decode b_M_share 103 = .ok (.iload 5, 2) := by decide +kernel
theorem d_M_share_105 : decode b_M_share 105 = .ok (.idiv, 1) := by decide +kernel
theorem d_M_share_106 : decode b_M_share 106 = .ok (.goto 8, 3) := by decide +kernel
theorem d_M_share_109 : decode b_M_share 109 = .ok (.iload 4, 2) := by decide +kernel
theorem d_M_share_111 : decode b_M_share 111 = .ok (.iload 5, 2) := by decide +kernel
theorem d_M_share_113 : decode b_M_share 113 = .ok (.idiv, 1) := by decide +kernel
theorem d_M_share_114 : decode b_M_share 114 = .ok (.ireturn, 1) := by decide +kernel
theorem d_M_many_0 : decode b_M_many 0 = .ok (.iconst 0, 1) := by decide +kernel
theorem d_M_many_1 : decode b_M_many 1 = .ok (.istore 4, 2) := by decide +kernel
theorem d_M_many_3 : decode b_M_many 3 = .ok (.iconst 0, 1) := by decide +kernel
theorem d_M_many_4 : decode b_M_many 4 = .ok (.istore 5, 2) := by decide +kernel
theorem d_M_many_6 : decode b_M_many 6 = .ok (.iload 5, 2) := by decide +kernel
theorem d_M_many_8 : decode b_M_many 8 = .ok (.aload_n 0, 1) := by decide +kernel
theorem d_M_many_9 : decode b_M_many 9 = .ok (.getfield 47, 3) := by decide +kernel
theorem d_M_many_12 : decode b_M_many 12 = .ok (.if_icmp .ge 48, 3) := by decide +kernel
theorem d_M_many_15 : decode b_M_many 15 = .ok (.iload 4, 2) := by decide +kernel
theorem d_M_many_17 : decode b_M_many 17 = .ok (.aload_n 0, 1) := by decide +kernel
theorem d_M_many_18 : decode b_M_many 18 = .ok (.getfield 7, 3) := by decide +kernel
theorem d_M_many_21 : decode b_M_many 21 = .ok (.iload 5, 2) := by decide +kernel
theorem d_M_many_23 : decode b_M_many 23 = .ok (.iaload, 1) := by decide +kernel
theorem d_M_many_24 : decode b_M_many 24 = .ok (.iload_n 1, 1) := by decide +kernel
theorem d_M_many_25 : decode b_M_many 25 = .ok (.if_icmp .ne 25, 3) := by decide +kernel
theorem d_M_many_28 : decode b_M_many 28 = .ok (.aload_n 0, 1) := by decide +kernel
theorem d_M_many_29 : decode b_M_many 29 = .ok (.getfield 22, 3) := by decide +kernel
theorem d_M_many_32 : decode b_M_many 32 = .ok (.iload 5, 2) := by decide +kernel
theorem d_M_many_34 : decode b_M_many 34 = .ok (.iaload, 1) := by decide +kernel
theorem d_M_many_35 : decode b_M_many 35 = .ok (.i2l, 1) := by decide +kernel
theorem d_M_many_36 : decode b_M_many 36 = .ok (.iload_n 2, 1) := by decide +kernel
theorem d_M_many_37 : decode b_M_many 37 = .ok (.i2l, 1) := by decide +kernel
theorem d_M_many_38 : decode b_M_many 38 = .ok (.iload_n 3, 1) := by decide +kernel
theorem d_M_many_39 : decode b_M_many 39 = .ok (.i2l, 1) := by decide +kernel
theorem d_M_many_40 : decode b_M_many 40 = .ok (.invokestatic 50, 3) := by decide +kernel
theorem d_M_many_43 : decode b_M_many 43 = .ok (.ifCond .eq 7, 3) := by decide +kernel
theorem d_M_many_46 : decode b_M_many 46 = .ok (.iconst 1, 1) := by decide +kernel
theorem d_M_many_47 : decode b_M_many 47 = .ok (.goto 4, 3) := by decide +kernel
theorem d_M_many_50 : decode b_M_many 50 = .ok (.iconst 0, 1) := by decide +kernel
theorem d_M_many_51 : decode b_M_many 51 = .ok (.iadd, 1) := by decide +kernel
theorem d_M_many_52 : decode b_M_many 52 = .ok (.istore 4, 2) := by decide +kernel
theorem d_M_many_54 : decode b_M_many 54 = .ok (.iinc 5 1, 3) := by decide +kernel
theorem d_M_many_57 : decode b_M_many 57 = .ok (.goto (-51), 3) := by decide +kernel
theorem d_M_many_60 : decode b_M_many 60 = .ok (.iload 4, 2) := by decide +kernel
theorem d_M_many_62 : decode b_M_many 62 = .ok (.ireturn, 1) := by decide +kernel
theorem d_M_next_0 : decode b_M_next 0 = .ok (.aload_n 0, 1) := by decide +kernel
theorem d_M_next_1 : decode b_M_next 1 = .ok (.iload_n 1, 1) := by decide +kernel
theorem d_M_next_2 : decode b_M_next 2 = .ok (.i2l, 1) := by decide +kernel
theorem d_M_next_3 : decode b_M_next 3 = .ok (.lconst 0, 1) := by decide +kernel
theorem d_M_next_4 : decode b_M_next 4 = .ok (.ldc2_w 58, 3) := by decide +kernel
theorem d_M_next_7 : decode b_M_next 7 = .ok (.invokestatic 50, 3) := by decide +kernel
theorem d_M_next_10 : decode b_M_next 10 = .ok (.ifCond .ne 7, 3) := by decide +kernel
theorem d_M_next_13 : decode b_M_next 13 = .ok (.iconst 1, 1) := by decide +kernel
theorem d_M_next_14 : decode b_M_next 14 = .ok (.goto 4, 3) := by decide +kernel
theorem d_M_next_17 : decode b_M_next 17 = .ok (.iconst 0, 1) := by decide +kernel
theorem d_M_next_18 : decode b_M_next 18 = .ok (.iconst 0, 1) := by decide +kernel
theorem d_M_next_19 : decode b_M_next 19 = .ok (.iconst 0, 1) := by decide +kernel
theorem d_M_next_20 : decode b_M_next 20 = .ok (.invokevirtual 62, 3) := by decide +kernel
theorem d_M_next_23 : decode b_M_next 23 = .ok (.ifCond .eq 5, 3) := by decide +kernel
theorem d_M_next_26 : decode b_M_next 26 = .ok (.iconst 0, 1) := by decide +kernel
theorem d_M_next_27 : decode b_M_next 27 = .ok (.ireturn, 1) := by decide +kernel
theorem d_M_next_28 : decode b_M_next 28 = .ok (.aload_n 0, 1) := by decide +kernel
theorem d_M_next_29 : decode b_M_next 29 = .ok (.iload_n 1, 1) := by decide +kernel
theorem d_M_next_30 : decode b_M_next 30 = .ok (.iconst 1, 1) := by decide +kernel
theorem d_M_next_31 : decode b_M_next 31 = .ok (.iconst 3, 1) := by decide +kernel
theorem d_M_next_32 : decode b_M_next 32 = .ok (.invokevirtual 97, 3) := by decide +kernel
theorem d_M_next_35 : decode b_M_next 35 = .ok (.istore_n 2, 1) := by decide +kernel
theorem d_M_next_36 : decode b_M_next 36 = .ok (.aload_n 0, 1) := by decide +kernel
theorem d_M_next_37 : decode b_M_next 37 = .ok (.iload_n 1, 1) := by decide +kernel
theorem d_M_next_38 : decode b_M_next 38 = .ok (.iconst 2, 1) := by decide +kernel
theorem d_M_next_39 : decode b_M_next 39 = .ok (.iconst 3, 1) := by decide +kernel
theorem d_M_next_40 : decode b_M_next 40 = .ok (.invokevirtual 97, 3) := by decide +kernel
theorem d_M_next_43 : decode b_M_next 43 = .ok (.istore_n 3, 1) := by decide +kernel
theorem d_M_next_44 : decode b_M_next 44 = .ok (.iload_n 2, 1) := by decide +kernel
theorem d_M_next_45 : decode b_M_next 45 = .ok (.ifCond .ne 8, 3) := by decide +kernel
theorem d_M_next_48 : decode b_M_next 48 = .ok (.bipush 100, 2) := by decide +kernel
theorem d_M_next_50 : decode b_M_next 50 = .ok (.goto 17, 3) := by decide +kernel
theorem d_M_next_53 : decode b_M_next 53 = .ok (.bipush 50, 2) := by decide +kernel
theorem d_M_next_55 : decode b_M_next 55 = .ok (.sipush 950, 3) := by decide +kernel
theorem d_M_next_58 : decode b_M_next 58 = .ok (.iload_n 3, 1) := by decide +kernel
theorem d_M_next_59 : decode b_M_next 59 = .ok (.imul, 1) := by decide +kernel
theorem d_M_next_60 : decode b_M_next 60 = .ok (.iload_n 2, 1) := by decide +kernel
theorem d_M_next_61 : decode b_M_next 61 = .ok (.iadd, 1) := by decide +kernel
theorem d_M_next_62 : decode b_M_next 62 = .ok (.iconst 1, 1) := by decide +kernel
theorem d_M_next_63 : decode b_M_next 63 = .ok (.isub, 1) := by decide +kernel
theorem d_M_next_64 : decode b_M_next 64 = .ok (.iload_n 2, 1) := by decide +kernel
theorem d_M_next_65 : decode b_M_next 65 = .ok (.idiv, 1) := by decide +kernel
theorem d_M_next_66 : decode b_M_next 66 = .ok (.iadd, 1) := by decide +kernel
theorem d_M_next_67 : decode b_M_next 67 = .ok (.ireturn, 1) := by decide +kernel
theorem d_M_digit_0 : decode b_M_digit 0 = .ok (.aload_n 0, 1) := by decide +kernel
theorem d_M_digit_1 : decode b_M_digit 1 = .ok (.iload_n 1, 1) := by decide +kernel
theorem d_M_digit_2 : decode b_M_digit 2 = .ok (.i2l, 1) := by decide +kernel
theorem d_M_digit_3 : decode b_M_digit 3 = .ok (.lconst 0, 1) := by decide +kernel
theorem d_M_digit_4 : decode b_M_digit 4 = .ok (.ldc2_w 110, 3) := by decide +kernel
theorem d_M_digit_7 : decode b_M_digit 7 = .ok (.invokestatic 50, 3) := by decide +kernel
theorem d_M_digit_10 : decode b_M_digit 10 = .ok (.ifCond .ne 7, 3) := by decide +kernel
theorem d_M_digit_13 : decode b_M_digit 13 = .ok (.iconst 1, 1) := by decide +kernel
theorem d_M_digit_14 : decode b_M_digit 14 = .ok (.goto 4, 3) := by decide +kernel
theorem d_M_digit_17 : decode b_M_digit 17 = .ok (.iconst 0, 1) := by decide +kernel
theorem d_M_digit_18 : decode b_M_digit 18 = .ok (.lload_n 2, 1) := by decide +kernel
theorem d_M_digit_19 : decode b_M_digit 19 = .ok (.lconst 0, 1) := by decide +kernel
theorem d_M_digit_20 : decode b_M_digit 20 = .ok (.ldc2_w 112, 3) := by decide +kernel
theorem d_M_digit_23 : decode b_M_digit 23 = .ok (.invokestatic 50, 3) := by decide +kernel
theorem d_M_digit_26 : decode b_M_digit 26 = .ok (.ifCond .ne 7, 3) := by decide +kernel
theorem d_M_digit_29 : decode b_M_digit 29 = .ok (.iconst 1, 1) := by decide +kernel
theorem d_M_digit_30 : decode b_M_digit 30 = .ok (.goto 4, 3) := by decide +kernel
theorem d_M_digit_33 : decode b_M_digit 33 = .ok (.iconst 0, 1) := by decide +kernel
theorem d_M_digit_34 : decode b_M_digit 34 = .ok (.iconst 0, 1) := by decide +kernel
theorem d_M_digit_35 : decode b_M_digit 35 = .ok (.invokevirtual 62, 3) := by decide +kernel
theorem d_M_digit_38 : decode b_M_digit 38 = .ok (.ifCond .eq 7, 3) := by decide +kernel
theorem d_M_digit_41 : decode b_M_digit 41 = .ok (.iconst 0, 1) := by decide +kernel
theorem d_M_digit_42 : decode b_M_digit 42 = .ok (.goto 8, 3) := by decide +kernel
theorem d_M_digit_45 : decode b_M_digit 45 = .ok (.iload_n 1, 1) := by decide +kernel
theorem d_M_digit_46 : decode b_M_digit 46 = .ok (.lload_n 2, 1) := by decide +kernel
theorem d_M_digit_47 : decode b_M_digit 47 = .ok (.invokestatic 114, 3) := by decide +kernel
theorem d_M_digit_50 : decode b_M_digit 50 = .ok (.ireturn, 1) := by decide +kernel
theorem d_M_digitOf_0 : decode b_M_digitOf 0 = .ok (.iload_n 0, 1) := by decide +kernel
theorem d_M_digitOf_1 : decode b_M_digitOf 1 = .ok (.iconst 2, 1) := by decide +kernel
theorem d_M_digitOf_2 : decode b_M_digitOf 2 = .ok (.if_icmp .ne 8, 3) := by decide +kernel
theorem d_M_digitOf_5 : decode b_M_digitOf 5 = .ok (.bipush 11, 2) := by decide +kernel
theorem d_M_digitOf_7 : decode b_M_digitOf 7 = .ok (.goto 5, 3) := by decide +kernel
theorem d_M_digitOf_10 : decode b_M_digitOf 10 = .ok (.bipush 10, 2) := by decide +kernel
theorem d_M_digitOf_12 : decode b_M_digitOf 12 = .ok (.istore_n 3, 1) := by decide +kernel
theorem d_M_digitOf_13 : decode b_M_digitOf 13 = .ok (.iload_n 3, 1) := by decide +kernel
theorem d_M_digitOf_14 : decode b_M_digitOf 14 = .ok (.iload_n 0, 1) := by decide +kernel
theorem d_M_digitOf_15 : decode b_M_digitOf 15 = .ok (.lload_n 1, 1) := by decide +kernel
theorem d_M_digitOf_16 : decode b_M_digitOf 16 = .ok (.invokestatic 106, 3) := by decide +kernel
theorem d_M_digitOf_19 : decode b_M_digitOf 19 = .ok (.iload_n 3, 1) := by decide +kernel
theorem d_M_digitOf_20 : decode b_M_digitOf 20 = .ok (.irem, 1) := by decide +kernel
theorem d_M_digitOf_21 : decode b_M_digitOf 21 = .ok (.isub, 1) := by decide +kernel
theorem d_M_digitOf_22 : decode b_M_digitOf 22 = .ok (.iload_n 3, 1) := by decide +kernel
theorem d_M_digitOf_23 : decode b_M_digitOf 23 = .ok (.irem, 1) := by decide +kernel
theorem d_M_digitOf_24 : decode b_M_digitOf 24 = .ok (.ireturn, 1) := by decide +kernel
theorem d_M_sum_0 : decode b_M_sum 0 = .ok (.iconst 0, 1) := by decide +kernel
theorem d_M_sum_1 : decode b_M_sum 1 = .ok (.istore_n 3, 1) := by decide +kernel
theorem d_M_sum_2 : decode b_M_sum 2 = .ok (.lload_n 1, 1) := by decide +kernel
theorem d_M_sum_3 : decode b_M_sum 3 = .ok (.lstore 4, 2) := by decide +kernel
theorem d_M_sum_5 : decode b_M_sum 5 = .ok (.iconst 0, 1) := by decide +kernel
theorem d_M_sum_6 : decode b_M_sum 6 = .ok (.istore 6, 2) := by decide +kernel
theorem d_M_sum_8 : decode b_M_sum 8 = .ok (.iload 6, 2) := by decide +kernel
theorem d_M_sum_10 : decode b_M_sum 10 = .ok (.bipush 18, 2) := by decide +kernel
theorem d_M_sum_12 : decode b_M_sum 12 = .ok (.if_icmp .ge 33, 3) := by decide +kernel
theorem d_M_sum_15 : decode b_M_sum 15 = .ok (.iload_n 3, 1) := by decide +kernel
theorem d_M_sum_16 : decode b_M_sum 16 = .ok (.iload_n 0, 1) := by decide +kernel
theorem d_M_sum_17 : decode b_M_sum 17 = .ok (.lload 4, 2) := by decide +kernel
theorem d_M_sum_19 : decode b_M_sum 19 = .ok (.ldc2_w 101, 3) := by decide +kernel
theorem d_M_sum_22 : decode b_M_sum 22 = .ok (.lrem, 1) := by decide +kernel
theorem d_M_sum_23 : decode b_M_sum 23 = .ok (.l2i, 1) := by decide +kernel
theorem d_M_sum_24 : decode b_M_sum 24 = .ok (.iload 6, 2) := by decide +kernel
theorem d_M_sum_26 : decode b_M_sum 26 = .ok (.invokestatic 103, 3) := by decide +kernel
theorem d_M_sum_29 : decode b_M_sum 29 = .ok (.iadd, 1) := by decide +kernel
theorem d_M_sum_30 : decode b_M_sum 30 = .ok (.istore_n 3, 1) := by decide +kernel
theorem d_M_sum_31 : decode b_M_sum 31 = .ok (.lload 4, 2) := by decide +kernel
theorem d_M_sum_33 : decode b_M_sum 33 = .ok (.ldc2_w 101, 3) := by decide +kernel
theorem d_M_sum_36 : decode b_M_sum 36 = .ok (.ldiv, 1) := by decide +kernel
theorem d_M_sum_37 : decode b_M_sum 37 = .ok (.lstore 4, 2) := by decide +kernel
theorem d_M_sum_39 : decode b_M_sum 39 = .ok (.iinc 6 1, 3) := by decide +kernel
theorem d_M_sum_42 : decode b_M_sum 42 = .ok (.goto (-34), 3) := by decide +kernel
theorem d_M_sum_45 : decode b_M_sum 45 = .ok (.iload_n 3, 1) := by decide +kernel
theorem d_M_sum_46 : decode b_M_sum 46 = .ok (.ireturn, 1) := by decide +kernel
theorem d_M_counts_0 : decode b_M_counts 0 = .ok (.iload_n 0, 1) := by decide +kernel
theorem d_M_counts_1 : decode b_M_counts 1 = .ok (.iconst 2, 1) := by decide +kernel
theorem d_M_counts_2 : decode b_M_counts 2 = .ok (.if_icmp .ne 12, 3) := by decide +kernel
theorem d_M_counts_5 : decode b_M_counts 5 = .ok (.iload_n 1, 1) := by decide +kernel
theorem d_M_counts_6 : decode b_M_counts 6 = .ok (.iload_n 2, 1) := by decide +kernel
theorem d_M_counts_7 : decode b_M_counts 7 = .ok (.bipush 6, 2) := by decide +kernel
theorem d_M_counts_9 : decode b_M_counts 9 = .ok (.irem, 1) := by decide +kernel
theorem d_M_counts_10 : decode b_M_counts 10 = .ok (.iconst 2, 1) := by decide +kernel
theorem d_M_counts_11 : decode b_M_counts 11 = .ok (.iadd, 1) := by decide +kernel
theorem d_M_counts_12 : decode b_M_counts 12 = .ok (.imul, 1) := by decide +kernel
theorem d_M_counts_13 : decode b_M_counts 13 = .ok (.ireturn, 1) := by decide +kernel
theorem d_M_counts_14 : decode b_M_counts 14 = .ok (.iload_n 2, 1) := by decide +kernel
theorem d_M_counts_15 : decode b_M_counts 15 = .ok (.iconst 2, 1) := by decide +kernel
theorem d_M_counts_16 : decode b_M_counts 16 = .ok (.irem, 1) := by decide +kernel
theorem d_M_counts_17 : decode b_M_counts 17 = .ok (.iconst 1, 1) := by decide +kernel
theorem d_M_counts_18 : decode b_M_counts 18 = .ok (.if_icmp .ne 5, 3) := by decide +kernel
theorem d_M_counts_21 : decode b_M_counts 21 = .ok (.iload_n 1, 1) := by decide +kernel
theorem d_M_counts_22 : decode b_M_counts 22 = .ok (.ireturn, 1) := by decide +kernel
theorem d_M_counts_23 : decode b_M_counts 23 = .ok (.iload_n 0, 1) := by decide +kernel
theorem d_M_counts_24 : decode b_M_counts 24 = .ok (.iconst 1, 1) := by decide +kernel
theorem d_M_counts_25 : decode b_M_counts 25 = .ok (.if_icmp .ne 9, 3) := by decide +kernel
theorem d_M_counts_28 : decode b_M_counts 28 = .ok (.iconst 3, 1) := by decide +kernel
theorem d_M_counts_29 : decode b_M_counts 29 = .ok (.iload_n 1, 1) := by decide +kernel
theorem d_M_counts_30 : decode b_M_counts 30 = .ok (.imul, 1) := by decide +kernel
theorem d_M_counts_31 : decode b_M_counts 31 = .ok (.goto 23, 3) := by decide +kernel
theorem d_M_counts_34 : decode b_M_counts 34 = .ok (.iconst 2, 1) := by decide +kernel
theorem d_M_counts_35 : decode b_M_counts 35 = .ok (.iload_n 1, 1) := by decide +kernel
theorem d_M_counts_36 : decode b_M_counts 36 = .ok (.imul, 1) := by decide +kernel
theorem d_M_counts_37 : decode b_M_counts 37 = .ok (.bipush 9, 2) := by decide +kernel
theorem d_M_counts_39 : decode b_M_counts 39 = .ok (.if_icmp .le 12, 3) := by decide +kernel
theorem d_M_counts_42 : decode b_M_counts 42 = .ok (.iconst 2, 1) := by decide +kernel
theorem d_M_counts_43 : decode b_M_counts 43 = .ok (.iload_n 1, 1) := by decide +kernel
theorem d_M_counts_44 : decode b_M_counts 44 = .ok (.imul, 1) := by decide +kernel
theorem d_M_counts_45 : decode b_M_counts 45 = .ok (.bipush 9, 2) := by decide +kernel
theorem d_M_counts_47 : decode b_M_counts 47 = .ok (.isub, 1) := by decide +kernel
theorem d_M_counts_48 : decode b_M_counts 48 = .ok (.goto 6, 3) := by decide +kernel
theorem d_M_counts_51 : decode b_M_counts 51 = .ok (.iconst 2, 1) := by decide +kernel
theorem d_M_counts_52 : decode b_M_counts 52 = .ok (.iload_n 1, 1) := by decide +kernel
theorem d_M_counts_53 : decode b_M_counts 53 = .ok (.imul, 1) := by decide +kernel
theorem d_M_counts_54 : decode b_M_counts 54 = .ok (.ireturn, 1) := by decide +kernel
theorem d_M_good_0 : decode b_M_good 0 = .ok (.aload_n 0, 1) := by decide +kernel
theorem d_M_good_1 : decode b_M_good 1 = .ok (.iload_n 1, 1) := by decide +kernel
theorem d_M_good_2 : decode b_M_good 2 = .ok (.i2l, 1) := by decide +kernel
theorem d_M_good_3 : decode b_M_good 3 = .ok (.lconst 0, 1) := by decide +kernel
theorem d_M_good_4 : decode b_M_good 4 = .ok (.ldc2_w 110, 3) := by decide +kernel
theorem d_M_good_7 : decode b_M_good 7 = .ok (.invokestatic 50, 3) := by decide +kernel
theorem d_M_good_10 : decode b_M_good 10 = .ok (.ifCond .ne 7, 3) := by decide +kernel
theorem d_M_good_13 : decode b_M_good 13 = .ok (.iconst 1, 1) := by decide +kernel
theorem d_M_good_14 : decode b_M_good 14 = .ok (.goto 4, 3) := by decide +kernel
theorem d_M_good_17 : decode b_M_good 17 = .ok (.iconst 0, 1) := by decide +kernel
theorem d_M_good_18 : decode b_M_good 18 = .ok (.lload_n 2, 1) := by decide +kernel
theorem d_M_good_19 : decode b_M_good 19 = .ok (.lconst 0, 1) := by decide +kernel
theorem d_M_good_20 : decode b_M_good 20 = .ok (.ldc2_w 112, 3) := by decide +kernel
theorem d_M_good_23 : decode b_M_good 23 = .ok (.invokestatic 50, 3) := by decide +kernel
theorem d_M_good_26 : decode b_M_good 26 = .ok (.ifCond .ne 7, 3) := by decide +kernel
theorem d_M_good_29 : decode b_M_good 29 = .ok (.iconst 1, 1) := by decide +kernel
theorem d_M_good_30 : decode b_M_good 30 = .ok (.goto 4, 3) := by decide +kernel
theorem d_M_good_33 : decode b_M_good 33 = .ok (.iconst 0, 1) := by decide +kernel
theorem d_M_good_34 : decode b_M_good 34 = .ok (.iconst 0, 1) := by decide +kernel
theorem d_M_good_35 : decode b_M_good 35 = .ok (.invokevirtual 62, 3) := by decide +kernel
theorem d_M_good_38 : decode b_M_good 38 = .ok (.ifCond .eq 5, 3) := by decide +kernel
theorem d_M_good_41 : decode b_M_good 41 = .ok (.iconst 0, 1) := by decide +kernel
theorem d_M_good_42 : decode b_M_good 42 = .ok (.ireturn, 1) := by decide +kernel
theorem d_M_good_43 : decode b_M_good 43 = .ok (.lload_n 2, 1) := by decide +kernel
theorem d_M_good_44 : decode b_M_good 44 = .ok (.ldc2_w 101, 3) := by decide +kernel
theorem d_M_good_47 : decode b_M_good 47 = .ok (.lrem, 1) := by decide +kernel
theorem d_M_good_48 : decode b_M_good 48 = .ok (.iload_n 1, 1) := by decide +kernel
theorem d_M_good_49 : decode b_M_good 49 = .ok (.lload_n 2, 1) := by decide +kernel
theorem d_M_good_50 : decode b_M_good 50 = .ok (.ldc2_w 101, 3) := by decide +kernel
theorem d_M_good_53 : decode b_M_good 53 = .ok (.ldiv, 1) := by decide +kernel
theorem d_M_good_54 : decode b_M_good 54 = .ok (.invokestatic 114, 3) := by decide +kernel
theorem d_M_good_57 : decode b_M_good 57 = .ok (.i2l, 1) := by decide +kernel
theorem d_M_good_58 : decode b_M_good 58 = .ok (.lcmp, 1) := by decide +kernel
theorem d_M_good_59 : decode b_M_good 59 = .ok (.ifCond .ne 7, 3) := by decide +kernel
theorem d_M_good_62 : decode b_M_good 62 = .ok (.iconst 1, 1) := by decide +kernel
theorem d_M_good_63 : decode b_M_good 63 = .ok (.goto 4, 3) := by decide +kernel
theorem d_M_good_66 : decode b_M_good 66 = .ok (.iconst 0, 1) := by decide +kernel
theorem d_M_good_67 : decode b_M_good 67 = .ok (.ireturn, 1) := by decide +kernel
theorem d_M_tag_0 : decode b_M_tag 0 = .ok (.aload_n 0, 1) := by decide +kernel
theorem d_M_tag_1 : decode b_M_tag 1 = .ok (.iload_n 1, 1) := by decide +kernel
theorem d_M_tag_2 : decode b_M_tag 2 = .ok (.invokevirtual 91, 3) := by decide +kernel
theorem d_M_tag_5 : decode b_M_tag 5 = .ok (.ifCond .eq 15, 3) := by decide +kernel
theorem d_M_tag_8 : decode b_M_tag 8 = .ok (.iload_n 3, 1) := by decide +kernel
theorem d_M_tag_9 : decode b_M_tag 9 = .ok (.i2l, 1) := by decide +kernel
theorem d_M_tag_10 : decode b_M_tag 10 = .ok (.lconst 0, 1) := by decide +kernel
theorem d_M_tag_11 : decode b_M_tag 11 = .ok (.ldc2_w 60, 3) := by decide +kernel
theorem d_M_tag_14 : decode b_M_tag 14 = .ok (.invokestatic 50, 3) := by decide +kernel
theorem d_M_tag_17 : decode b_M_tag 17 = .ok (.ifCond .ne 7, 3) := by decide +kernel
theorem d_M_tag_20 : decode b_M_tag 20 = .ok (.iconst 1, 1) := by decide +kernel
theorem d_M_tag_21 : decode b_M_tag 21 = .ok (.goto 4, 3) := by decide +kernel
theorem d_M_tag_24 : decode b_M_tag 24 = .ok (.iconst 0, 1) := by decide +kernel
theorem d_M_tag_25 : decode b_M_tag 25 = .ok (.istore 5, 2) := by decide +kernel
theorem d_M_tag_27 : decode b_M_tag 27 = .ok (.iload_n 2, 1) := by decide +kernel
theorem d_M_tag_28 : decode b_M_tag 28 = .ok (.i2l, 1) := by decide +kernel
theorem d_M_tag_29 : decode b_M_tag 29 = .ok (.lconst 0, 1) := by decide +kernel
theorem d_M_tag_30 : decode b_M_tag 30 = .ok (.ldc2_w 117, 3) := by decide +kernel
theorem d_M_tag_33 : decode b_M_tag 33 = .ok (.invokestatic 50, 3) := by decide +kernel
theorem d_M_tag_36 : decode b_M_tag 36 = .ok (.ifCond .eq 22, 3) := by decide +kernel
theorem d_M_tag_39 : decode b_M_tag 39 = .ok (.iload 4, 2) := by decide +kernel
theorem d_M_tag_41 : decode b_M_tag 41 = .ok (.i2l, 1) := by decide +kernel
theorem d_M_tag_42 : decode b_M_tag 42 = .ok (.lconst 0, 1) := by decide +kernel
theorem d_M_tag_43 : decode b_M_tag 43 = .ok (.ldc2_w 117, 3) := by decide +kernel
theorem d_M_tag_46 : decode b_M_tag 46 = .ok (.invokestatic 50, 3) := by decide +kernel
theorem d_M_tag_49 : decode b_M_tag 49 = .ok (.ifCond .eq 9, 3) := by decide +kernel
theorem d_M_tag_52 : decode b_M_tag 52 = .ok (.iload 4, 2) := by decide +kernel
theorem d_M_tag_54 : decode b_M_tag 54 = .ok (.iload_n 2, 1) := by decide +kernel
theorem d_M_tag_55 : decode b_M_tag 55 = .ok (.if_icmp .ge 7, 3) := by decide +kernel
theorem d_M_tag_58 : decode b_M_tag 58 = .ok (.iconst 1, 1) := by decide +kernel
theorem d_M_tag_59 : decode b_M_tag 59 = .ok (.goto 4, 3) := by decide +kernel
theorem d_M_tag_62 : decode b_M_tag 62 = .ok (.iconst 0, 1) := by decide +kernel
theorem d_M_tag_63 : decode b_M_tag 63 = .ok (.istore 6, 2) := by decide +kernel
theorem d_M_tag_65 : decode b_M_tag 65 = .ok (.aload_n 0, 1) := by decide +kernel
theorem d_M_tag_66 : decode b_M_tag 66 = .ok (.iload 5, 2) := by decide +kernel
theorem d_M_tag_68 : decode b_M_tag 68 = .ok (.iload 6, 2) := by decide +kernel
theorem d_M_tag_70 : decode b_M_tag 70 = .ok (.iload 5, 2) := by decide +kernel
theorem d_M_tag_72 : decode b_M_tag 72 = .ok (.ifCond .ne 18, 3) := by decide +kernel
theorem d_M_tag_75 : decode b_M_tag 75 = .ok (.aload_n 0, 1) := by decide +kernel
theorem d_M_tag_76 : decode b_M_tag 76 = .ok (.getfield 31, 3) := by decide +kernel
theorem d_M_tag_79 : decode b_M_tag 79 = .ok (.iload_n 1, 1) := by decide +kernel
theorem d_M_tag_80 : decode b_M_tag 80 = .ok (.iaload, 1) := by decide +kernel
theorem d_M_tag_81 : decode b_M_tag 81 = .ok (.bipush 24, 2) := by decide +kernel
theorem d_M_tag_83 : decode b_M_tag 83 = .ok (.if_icmp .ne 7, 3) := by decide +kernel
theorem d_M_tag_86 : decode b_M_tag 86 = .ok (.iconst 1, 1) := by decide +kernel
theorem d_M_tag_87 : decode b_M_tag 87 = .ok (.goto 4, 3) := by decide +kernel
theorem d_M_tag_90 : decode b_M_tag 90 = .ok (.iconst 0, 1) := by decide +kernel
theorem d_M_tag_91 : decode b_M_tag 91 = .ok (.invokevirtual 62, 3) := by decide +kernel
theorem d_M_tag_94 : decode b_M_tag 94 = .ok (.ifCond .eq 5, 3) := by decide +kernel
theorem d_M_tag_97 : decode b_M_tag 97 = .ok (.iconst 0, 1) := by decide +kernel
theorem d_M_tag_98 : decode b_M_tag 98 = .ok (.ireturn, 1) := by decide +kernel
theorem d_M_tag_99 : decode b_M_tag 99 = .ok (.bipush 24, 2) := by decide +kernel
theorem d_M_tag_101 : decode b_M_tag 101 = .ok (.iload_n 1, 1) := by decide +kernel
theorem d_M_tag_102 : decode b_M_tag 102 = .ok (.imul, 1) := by decide +kernel
theorem d_M_tag_103 : decode b_M_tag 103 = .ok (.aload_n 0, 1) := by decide +kernel
theorem d_M_tag_104 : decode b_M_tag 104 = .ok (.getfield 31, 3) := by decide +kernel
theorem d_M_tag_107 : decode b_M_tag 107 = .ok (.iload_n 1, 1) := by decide +kernel
theorem d_M_tag_108 : decode b_M_tag 108 = .ok (.iaload, 1) := by decide +kernel
theorem d_M_tag_109 : decode b_M_tag 109 = .ok (.iadd, 1) := by decide +kernel
theorem d_M_tag_110 : decode b_M_tag 110 = .ok (.istore 7, 2) := by decide +kernel
theorem d_M_tag_112 : decode b_M_tag 112 = .ok (.aload_n 0, 1) := by decide +kernel
theorem d_M_tag_113 : decode b_M_tag 113 = .ok (.getfield 34, 3) := by decide +kernel
theorem d_M_tag_116 : decode b_M_tag 116 = .ok (.iload 7, 2) := by decide +kernel
theorem d_M_tag_118 : decode b_M_tag 118 = .ok (.iload_n 2, 1) := by decide +kernel
theorem d_M_tag_119 : decode b_M_tag 119 = .ok (.iastore, 1) := by decide +kernel
theorem d_M_tag_120 : decode b_M_tag 120 = .ok (.aload_n 0, 1) := by decide +kernel
theorem d_M_tag_121 : decode b_M_tag 121 = .ok (.getfield 37, 3) := by decide +kernel
theorem d_M_tag_124 : decode b_M_tag 124 = .ok (.iload 7, 2) := by decide +kernel
theorem d_M_tag_126 : decode b_M_tag 126 = .ok (.iload_n 3, 1) := by decide +kernel
theorem d_M_tag_127 : decode b_M_tag 127 = .ok (.iastore, 1) := by decide +kernel
theorem d_M_tag_128 : decode b_M_tag 128 = .ok (.aload_n 0, 1) := by decide +kernel
theorem d_M_tag_129 : decode b_M_tag 129 = .ok (.getfield 40, 3) := by decide +kernel
theorem d_M_tag_132 : decode b_M_tag 132 = .ok (.iload 7, 2) := by decide +kernel
theorem d_M_tag_134 : decode b_M_tag 134 = .ok (.iload 4, 2) := by decide +kernel
theorem d_M_tag_136 : decode b_M_tag 136 = .ok (.iastore, 1) := by decide +kernel
theorem d_M_tag_137 : decode b_M_tag 137 = .ok (.aload_n 0, 1) := by decide +kernel
theorem d_M_tag_138 : decode b_M_tag 138 = .ok (.getfield 31, 3) := by decide +kernel
theorem d_M_tag_141 : decode b_M_tag 141 = .ok (.iload_n 1, 1) := by decide +kernel
theorem d_M_tag_142 : decode b_M_tag 142 = .ok (.dup2, 1) := by decide +kernel
theorem d_M_tag_143 : decode b_M_tag 143 = .ok (.iaload, 1) := by decide +kernel
theorem d_M_tag_144 : decode b_M_tag 144 = .ok (.iconst 1, 1) := by decide +kernel
theorem d_M_tag_145 : decode b_M_tag 145 = .ok (.iadd, 1) := by decide +kernel
theorem d_M_tag_146 : decode b_M_tag 146 = .ok (.iastore, 1) := by decide +kernel
theorem d_M_tag_147 : decode b_M_tag 147 = .ok (.aload_n 0, 1) := by decide +kernel
theorem d_M_tag_148 : decode b_M_tag 148 = .ok (.getfield 31, 3) := by decide +kernel
theorem d_M_tag_151 : decode b_M_tag 151 = .ok (.iload_n 1, 1) := by decide +kernel
theorem d_M_tag_152 : decode b_M_tag 152 = .ok (.iaload, 1) := by decide +kernel
theorem d_M_tag_153 : decode b_M_tag 153 = .ok (.ireturn, 1) := by decide +kernel
theorem d_M_first_0 : decode b_M_first 0 = .ok (.aload_n 0, 1) := by decide +kernel
theorem d_M_first_1 : decode b_M_first 1 = .ok (.aload_n 0, 1) := by decide +kernel
theorem d_M_first_2 : decode b_M_first 2 = .ok (.iload_n 1, 1) := by decide +kernel
theorem d_M_first_3 : decode b_M_first 3 = .ok (.invokevirtual 91, 3) := by decide +kernel
theorem d_M_first_6 : decode b_M_first 6 = .ok (.ifCond .ne 7, 3) := by decide +kernel
theorem d_M_first_9 : decode b_M_first 9 = .ok (.iconst 1, 1) := by decide +kernel
theorem d_M_first_10 : decode b_M_first 10 = .ok (.goto 4, 3) := by decide +kernel
theorem d_M_first_13 : decode b_M_first 13 = .ok (.iconst 0, 1) := by decide +kernel
theorem d_M_first_14 : decode b_M_first 14 = .ok (.iload_n 2, 1) := by decide +kernel
theorem d_M_first_15 : decode b_M_first 15 = .ok (.i2l, 1) := by decide +kernel
theorem d_M_first_16 : decode b_M_first 16 = .ok (.lconst 0, 1) := by decide +kernel
theorem d_M_first_17 : decode b_M_first 17 = .ok (.ldc2_w 117, 3) := by decide +kernel
theorem d_M_first_20 : decode b_M_first 20 = .ok (.invokestatic 50, 3) := by decide +kernel
theorem d_M_first_23 : decode b_M_first 23 = .ok (.ifCond .ne 7, 3) := by decide +kernel
theorem d_M_first_26 : decode b_M_first 26 = .ok (.iconst 1, 1) := by decide +kernel
theorem d_M_first_27 : decode b_M_first 27 = .ok (.goto 4, 3) := by decide +kernel
theorem d_M_first_30 : decode b_M_first 30 = .ok (.iconst 0, 1) := by decide +kernel
theorem d_M_first_31 : decode b_M_first 31 = .ok (.iconst 0, 1) := by decide +kernel
theorem d_M_first_32 : decode b_M_first 32 = .ok (.invokevirtual 62, 3) := by decide +kernel
theorem d_M_first_35 : decode b_M_first 35 = .ok (.ifCond .eq 5, 3) := by decide +kernel
theorem d_M_first_38 : decode b_M_first 38 = .ok (.iconst 0, 1) := by decide +kernel
theorem d_M_first_39 : decode b_M_first 39 = .ok (.ireturn, 1) := by decide +kernel
theorem d_M_first_40 : decode b_M_first 40 = .ok (.aload_n 0, 1) := by decide +kernel
theorem d_M_first_41 : decode b_M_first 41 = .ok (.iload_n 1, 1) := by decide +kernel
theorem d_M_first_42 : decode b_M_first 42 = .ok (.iload_n 2, 1) := by decide +kernel
theorem d_M_first_43 : decode b_M_first 43 = .ok (.invokevirtual 119, 3) := by decide +kernel
theorem d_M_first_46 : decode b_M_first 46 = .ok (.istore_n 3, 1) := by decide +kernel
theorem d_M_first_47 : decode b_M_first 47 = .ok (.iload_n 3, 1) := by decide +kernel
theorem d_M_first_48 : decode b_M_first 48 = .ok (.ifCond .ge 7, 3) := by decide +kernel
theorem d_M_first_51 : decode b_M_first 51 = .ok (.iconst 0, 1) := by decide +kernel
theorem d_M_first_52 : decode b_M_first 52 = .ok (.goto 11, 3) := by decide +kernel
theorem d_M_first_55 : decode b_M_first 55 = .ok (.aload_n 0, 1) := by decide +kernel
theorem d_M_first_56 : decode b_M_first 56 = .ok (.getfield 34, 3) := by decide +kernel
theorem d_M_first_59 : decode b_M_first 59 = .ok (.iload_n 3, 1) := by decide +kernel
theorem d_M_first_60 : decode b_M_first 60 = .ok (.iaload, 1) := by decide +kernel
theorem d_M_first_61 : decode b_M_first 61 = .ok (.iconst 1, 1) := by decide +kernel
theorem d_M_first_62 : decode b_M_first 62 = .ok (.iadd, 1) := by decide +kernel
theorem d_M_first_63 : decode b_M_first 63 = .ok (.ireturn, 1) := by decide +kernel
theorem d_M_best_0 : decode b_M_best 0 = .ok (.iconst (-1), 1) := by decide +kernel
theorem d_M_best_1 : decode b_M_best 1 = .ok (.istore_n 3, 1) := by decide +kernel
theorem d_M_best_2 : decode b_M_best 2 = .ok (.bipush 24, 2) := by decide +kernel
theorem d_M_best_4 : decode b_M_best 4 = .ok (.iload_n 1, 1) := by decide +kernel
theorem d_M_best_5 : decode b_M_best 5 = .ok (.imul, 1) := by decide +kernel
theorem d_M_best_6 : decode b_M_best 6 = .ok (.istore 4, 2) := by decide +kernel
theorem d_M_best_8 : decode b_M_best 8 = .ok (.iload 4, 2) := by decide +kernel
theorem d_M_best_10 : decode b_M_best 10 = .ok (.bipush 24, 2) := by decide +kernel
theorem d_M_best_12 : decode b_M_best 12 = .ok (.iload_n 1, 1) := by decide +kernel
theorem d_M_best_13 : decode b_M_best 13 = .ok (.imul, 1) := by decide +kernel
theorem d_M_best_14 : decode b_M_best 14 = .ok (.aload_n 0, 1) := by decide +kernel
theorem d_M_best_15 : decode b_M_best 15 = .ok (.getfield 31, 3) := by decide +kernel
theorem d_M_best_18 : decode b_M_best 18 = .ok (.iload_n 1, 1) := by decide +kernel
theorem d_M_best_19 : decode b_M_best 19 = .ok (.iaload, 1) := by decide +kernel
theorem d_M_best_20 : decode b_M_best 20 = .ok (.iadd, 1) := by decide +kernel
theorem d_M_best_21 : decode b_M_best 21 = .ok (.if_icmp .ge 91, 3) := by decide +kernel
theorem d_M_best_24 : decode b_M_best 24 = .ok (.aload_n 0, 1) := by decide +kernel
theorem d_M_best_25 : decode b_M_best 25 = .ok (.getfield 40, 3) := by decide +kernel
theorem d_M_best_28 : decode b_M_best 28 = .ok (.iload 4, 2) := by decide +kernel
theorem d_M_best_30 : decode b_M_best 30 = .ok (.iaload, 1) := by decide +kernel
theorem d_M_best_31 : decode b_M_best 31 = .ok (.iload_n 2, 1) := by decide +kernel
theorem d_M_best_32 : decode b_M_best 32 = .ok (.if_icmp .gt 59, 3) := by decide +kernel
theorem d_M_best_35 : decode b_M_best 35 = .ok (.iload_n 3, 1) := by decide +kernel
theorem d_M_best_36 : decode b_M_best 36 = .ok (.ifCond .lt 51, 3) := by decide +kernel
theorem d_M_best_39 : decode b_M_best 39 = .ok (.aload_n 0, 1) := by decide +kernel
theorem d_M_best_40 : decode b_M_best 40 = .ok (.getfield 34, 3) := by decide +kernel
theorem d_M_best_43 : decode b_M_best 43 = .ok (.iload 4, 2) := by decide +kernel
theorem d_M_best_45 : decode b_M_best 45 = .ok (.iaload, 1) := by decide +kernel
theorem d_M_best_46 : decode b_M_best 46 = .ok (.aload_n 0, 1) := by decide +kernel
theorem d_M_best_47 : decode b_M_best 47 = .ok (.getfield 34, 3) := by decide +kernel
theorem d_M_best_50 : decode b_M_best 50 = .ok (.iload_n 3, 1) := by decide +kernel
theorem d_M_best_51 : decode b_M_best 51 = .ok (.iaload, 1) := by decide +kernel
theorem d_M_best_52 : decode b_M_best 52 = .ok (.if_icmp .gt 35, 3) := by decide +kernel
theorem d_M_best_55 : decode b_M_best 55 = .ok (.aload_n 0, 1) := by decide +kernel
theorem d_M_best_56 : decode b_M_best 56 = .ok (.getfield 34, 3) := by decide +kernel
theorem d_M_best_59 : decode b_M_best 59 = .ok (.iload 4, 2) := by decide +kernel
theorem d_M_best_61 : decode b_M_best 61 = .ok (.iaload, 1) := by decide +kernel
theorem d_M_best_62 : decode b_M_best 62 = .ok (.aload_n 0, 1) := by decide +kernel
theorem d_M_best_63 : decode b_M_best 63 = .ok (.getfield 34, 3) := by decide +kernel
theorem d_M_best_66 : decode b_M_best 66 = .ok (.iload_n 3, 1) := by decide +kernel
theorem d_M_best_67 : decode b_M_best 67 = .ok (.iaload, 1) := by decide +kernel
theorem d_M_best_68 : decode b_M_best 68 = .ok (.if_icmp .ne 23, 3) := by decide +kernel
theorem d_M_best_71 : decode b_M_best 71 = .ok (.aload_n 0, 1) := by decide +kernel
theorem d_M_best_72 : decode b_M_best 72 = .ok (.getfield 40, 3) := by decide +kernel
theorem d_M_best_75 : decode b_M_best 75 = .ok (.iload 4, 2) := by decide +kernel
theorem d_M_best_77 : decode b_M_best 77 = .ok (.iaload, 1) := by decide +kernel
theorem d_M_best_78 : decode b_M_best 78 = .ok (.aload_n 0, 1) := by decide +kernel
theorem d_M_best_79 : decode b_M_best 79 = .ok (.getfield 40, 3) := by decide +kernel
theorem d_M_best_82 : decode b_M_best 82 = .ok (.iload_n 3, 1) := by decide +kernel
theorem d_M_best_83 : decode b_M_best 83 = .ok (.iaload, 1) := by decide +kernel
theorem d_M_best_84 : decode b_M_best 84 = .ok (.if_icmp .lt 7, 3) := by decide +kernel
theorem d_M_best_87 : decode b_M_best 87 = .ok (.iconst 1, 1) := by decide +kernel
theorem d_M_best_88 : decode b_M_best 88 = .ok (.goto 4, 3) := by decide +kernel
theorem d_M_best_91 : decode b_M_best 91 = .ok (.iconst 0, 1) := by decide +kernel
theorem d_M_best_92 : decode b_M_best 92 = .ok (.istore 5, 2) := by decide +kernel
theorem d_M_best_94 : decode b_M_best 94 = .ok (.iload 5, 2) := by decide +kernel
theorem d_M_best_96 : decode b_M_best 96 = .ok (.ifCond .eq 8, 3) := by decide +kernel
theorem d_M_best_99 : decode b_M_best 99 = .ok (.iload 4, 2) := by decide +kernel
theorem d_M_best_101 : decode b_M_best 101 = .ok (.goto 4, 3) := by decide +kernel
theorem d_M_best_104 : decode b_M_best 104 = .ok (.iload_n 3, 1) := by decide +kernel
theorem d_M_best_105 : decode b_M_best 105 = .ok (.istore_n 3, 1) := by decide +kernel
theorem d_M_best_106 : decode b_M_best 106 = .ok (.iinc 4 1, 3) := by decide +kernel
theorem d_M_best_109 : decode b_M_best 109 = .ok (.goto (-101), 3) := by decide +kernel
theorem d_M_best_112 : decode b_M_best 112 = .ok (.iload_n 3, 1) := by decide +kernel
theorem d_M_best_113 : decode b_M_best 113 = .ok (.ireturn, 1) := by decide +kernel
theorem d_M_seen_0 : decode b_M_seen 0 = .ok (.aload_n 0, 1) := by decide +kernel
theorem d_M_seen_1 : decode b_M_seen 1 = .ok (.aload_n 0, 1) := by decide +kernel
theorem d_M_seen_2 : decode b_M_seen 2 = .ok (.iload_n 1, 1) := by decide +kernel
theorem d_M_seen_3 : decode b_M_seen 3 = .ok (.invokevirtual 91, 3) := by decide +kernel
theorem d_M_seen_6 : decode b_M_seen 6 = .ok (.ifCond .ne 7, 3) := by decide +kernel
theorem d_M_seen_9 : decode b_M_seen 9 = .ok (.iconst 1, 1) := by decide +kernel
theorem d_M_seen_10 : decode b_M_seen 10 = .ok (.goto 4, 3) := by decide +kernel
theorem d_M_seen_13 : decode b_M_seen 13 = .ok (.iconst 0, 1) := by decide +kernel
theorem d_M_seen_14 : decode b_M_seen 14 = .ok (.iload_n 2, 1) := by decide +kernel
theorem d_M_seen_15 : decode b_M_seen 15 = .ok (.i2l, 1) := by decide +kernel
theorem d_M_seen_16 : decode b_M_seen 16 = .ok (.lconst 0, 1) := by decide +kernel
theorem d_M_seen_17 : decode b_M_seen 17 = .ok (.ldc2_w 117, 3) := by decide +kernel
theorem d_M_seen_20 : decode b_M_seen 20 = .ok (.invokestatic 50, 3) := by decide +kernel
theorem d_M_seen_23 : decode b_M_seen 23 = .ok (.ifCond .ne 7, 3) := by decide +kernel
theorem d_M_seen_26 : decode b_M_seen 26 = .ok (.iconst 1, 1) := by decide +kernel
theorem d_M_seen_27 : decode b_M_seen 27 = .ok (.goto 4, 3) := by decide +kernel
theorem d_M_seen_30 : decode b_M_seen 30 = .ok (.iconst 0, 1) := by decide +kernel
theorem d_M_seen_31 : decode b_M_seen 31 = .ok (.iconst 0, 1) := by decide +kernel
theorem d_M_seen_32 : decode b_M_seen 32 = .ok (.invokevirtual 62, 3) := by decide +kernel
theorem d_M_seen_35 : decode b_M_seen 35 = .ok (.ifCond .eq 5, 3) := by decide +kernel
theorem d_M_seen_38 : decode b_M_seen 38 = .ok (.iconst 0, 1) := by decide +kernel
theorem d_M_seen_39 : decode b_M_seen 39 = .ok (.ireturn, 1) := by decide +kernel
theorem d_M_seen_40 : decode b_M_seen 40 = .ok (.aload_n 0, 1) := by decide +kernel
theorem d_M_seen_41 : decode b_M_seen 41 = .ok (.iload_n 1, 1) := by decide +kernel
theorem d_M_seen_42 : decode b_M_seen 42 = .ok (.iload_n 2, 1) := by decide +kernel
theorem d_M_seen_43 : decode b_M_seen 43 = .ok (.invokevirtual 119, 3) := by decide +kernel
theorem d_M_seen_46 : decode b_M_seen 46 = .ok (.istore_n 3, 1) := by decide +kernel
theorem d_M_seen_47 : decode b_M_seen 47 = .ok (.iload_n 3, 1) := by decide +kernel
theorem d_M_seen_48 : decode b_M_seen 48 = .ok (.ifCond .ge 7, 3) := by decide +kernel
theorem d_M_seen_51 : decode b_M_seen 51 = .ok (.iconst (-1), 1) := by decide +kernel
theorem d_M_seen_52 : decode b_M_seen 52 = .ok (.goto 9, 3) := by decide +kernel
theorem d_M_seen_55 : decode b_M_seen 55 = .ok (.aload_n 0, 1) := by decide +kernel
theorem d_M_seen_56 : decode b_M_seen 56 = .ok (.getfield 37, 3) := by decide +kernel
theorem d_M_seen_59 : decode b_M_seen 59 = .ok (.iload_n 3, 1) := by decide +kernel
theorem d_M_seen_60 : decode b_M_seen 60 = .ok (.iaload, 1) := by decide +kernel
theorem d_M_seen_61 : decode b_M_seen 61 = .ok (.ireturn, 1) := by decide +kernel
theorem d_M_weight_0 : decode b_M_weight 0 = .ok (.aload_n 0, 1) := by decide +kernel
theorem d_M_weight_1 : decode b_M_weight 1 = .ok (.aload_n 0, 1) := by decide +kernel
theorem d_M_weight_2 : decode b_M_weight 2 = .ok (.iload_n 1, 1) := by decide +kernel
theorem d_M_weight_3 : decode b_M_weight 3 = .ok (.invokevirtual 91, 3) := by decide +kernel
theorem d_M_weight_6 : decode b_M_weight 6 = .ok (.ifCond .ne 7, 3) := by decide +kernel
theorem d_M_weight_9 : decode b_M_weight 9 = .ok (.iconst 1, 1) := by decide +kernel
theorem d_M_weight_10 : decode b_M_weight 10 = .ok (.goto 4, 3) := by decide +kernel
theorem d_M_weight_13 : decode b_M_weight 13 = .ok (.iconst 0, 1) := by decide +kernel
theorem d_M_weight_14 : decode b_M_weight 14 = .ok (.iload_n 2, 1) := by decide +kernel
theorem d_M_weight_15 : decode b_M_weight 15 = .ok (.i2l, 1) := by decide +kernel
theorem d_M_weight_16 : decode b_M_weight 16 = .ok (.lconst 1, 1) := by decide +kernel
theorem d_M_weight_17 : decode b_M_weight 17 = .ok (.ldc2_w 122, 3) := by decide +kernel
theorem d_M_weight_20 : decode b_M_weight 20 = .ok (.invokestatic 50, 3) := by decide +kernel
theorem d_M_weight_23 : decode b_M_weight 23 = .ok (.ifCond .ne 7, 3) := by decide +kernel
theorem d_M_weight_26 : decode b_M_weight 26 = .ok (.iconst 1, 1) := by decide +kernel
theorem d_M_weight_27 : decode b_M_weight 27 = .ok (.goto 4, 3) := by decide +kernel
theorem d_M_weight_30 : decode b_M_weight 30 = .ok (.iconst 0, 1) := by decide +kernel
theorem d_M_weight_31 : decode b_M_weight 31 = .ok (.iconst 0, 1) := by decide +kernel
theorem d_M_weight_32 : decode b_M_weight 32 = .ok (.invokevirtual 62, 3) := by decide +kernel
theorem d_M_weight_35 : decode b_M_weight 35 = .ok (.ifCond .eq 5, 3) := by decide +kernel
theorem d_M_weight_38 : decode b_M_weight 38 = .ok (.iconst 0, 1) := by decide +kernel
theorem d_M_weight_39 : decode b_M_weight 39 = .ok (.ireturn, 1) := by decide +kernel
theorem d_M_weight_40 : decode b_M_weight 40 = .ok (.aload_n 0, 1) := by decide +kernel
theorem d_M_weight_41 : decode b_M_weight 41 = .ok (.getfield 16, 3) := by decide +kernel
theorem d_M_weight_44 : decode b_M_weight 44 = .ok (.iload_n 1, 1) := by decide +kernel
theorem d_M_weight_45 : decode b_M_weight 45 = .ok (.iaload, 1) := by decide +kernel
theorem d_M_weight_46 : decode b_M_weight 46 = .ok (.istore_n 3, 1) := by decide +kernel
theorem d_M_weight_47 : decode b_M_weight 47 = .ok (.aload_n 0, 1) := by decide +kernel
theorem d_M_weight_48 : decode b_M_weight 48 = .ok (.getfield 16, 3) := by decide +kernel
theorem d_M_weight_51 : decode b_M_weight 51 = .ok (.iload_n 1, 1) := by decide +kernel
theorem d_M_weight_52 : decode b_M_weight 52 = .ok (.iload_n 2, 1) := by decide +kernel
theorem d_M_weight_53 : decode b_M_weight 53 = .ok (.iastore, 1) := by decide +kernel
theorem d_M_weight_54 : decode b_M_weight 54 = .ok (.iload_n 3, 1) := by decide +kernel
theorem d_M_weight_55 : decode b_M_weight 55 = .ok (.ifCond .ne 7, 3) := by decide +kernel
theorem d_M_weight_58 : decode b_M_weight 58 = .ok (.iconst 0, 1) := by decide +kernel
theorem d_M_weight_59 : decode b_M_weight 59 = .ok (.goto 17, 3) := by decide +kernel
theorem d_M_weight_62 : decode b_M_weight 62 = .ok (.iload_n 3, 1) := by decide +kernel
theorem d_M_weight_63 : decode b_M_weight 63 = .ok (.iload_n 2, 1) := by decide +kernel
theorem d_M_weight_64 : decode b_M_weight 64 = .ok (.if_icmp .le 9, 3) := by decide +kernel
theorem d_M_weight_67 : decode b_M_weight 67 = .ok (.iload_n 3, 1) := by decide +kernel
theorem d_M_weight_68 : decode b_M_weight 68 = .ok (.iload_n 2, 1) := by decide +kernel
theorem d_M_weight_69 : decode b_M_weight 69 = .ok (.isub, 1) := by decide +kernel
theorem d_M_weight_70 : decode b_M_weight 70 = .ok (.goto 6, 3) := by decide +kernel
theorem d_M_weight_73 : decode b_M_weight 73 = .ok (.iload_n 2, 1) := by decide +kernel
theorem d_M_weight_74 : decode b_M_weight 74 = .ok (.iload_n 3, 1) := by decide +kernel
theorem d_M_weight_75 : decode b_M_weight 75 = .ok (.isub, 1) := by decide +kernel
theorem d_M_weight_76 : decode b_M_weight 76 = .ok (.ireturn, 1) := by decide +kernel
theorem d_M_report_0 : decode b_M_report 0 = .ok (.aload_n 0, 1) := by decide +kernel
theorem d_M_report_1 : decode b_M_report 1 = .ok (.iload_n 1, 1) := by decide +kernel
theorem d_M_report_2 : decode b_M_report 2 = .ok (.i2l, 1) := by decide +kernel
theorem d_M_report_3 : decode b_M_report 3 = .ok (.lconst 0, 1) := by decide +kernel
theorem d_M_report_4 : decode b_M_report 4 = .ok (.ldc2_w 124, 3) := by decide +kernel
theorem d_M_report_7 : decode b_M_report 7 = .ok (.invokestatic 50, 3) := by decide +kernel
theorem d_M_report_10 : decode b_M_report 10 = .ok (.ifCond .eq 7, 3) := by decide +kernel
theorem d_M_report_13 : decode b_M_report 13 = .ok (.iload_n 2, 1) := by decide +kernel
theorem d_M_report_14 : decode b_M_report 14 = .ok (.ifCond .ge 7, 3) := by decide +kernel
theorem d_M_report_17 : decode b_M_report 17 = .ok (.iconst 1, 1) := by decide +kernel
theorem d_M_report_18 : decode b_M_report 18 = .ok (.goto 4, 3) := by decide +kernel
theorem d_M_report_21 : decode b_M_report 21 = .ok (.iconst 0, 1) := by decide +kernel
theorem d_M_report_22 : decode b_M_report 22 = .ok (.iconst 0, 1) := by decide +kernel
theorem d_M_report_23 : decode b_M_report 23 = .ok (.iconst 0, 1) := by decide +kernel
theorem d_M_report_24 : decode b_M_report 24 = .ok (.invokevirtual 62, 3) := by decide +kernel
theorem d_M_report_27 : decode b_M_report 27 = .ok (.ifCond .eq 5, 3) := by decide +kernel
theorem d_M_report_30 : decode b_M_report 30 = .ok (.iconst 0, 1) := by decide +kernel
theorem d_M_report_31 : decode b_M_report 31 = .ok (.ireturn, 1) := by decide +kernel
theorem d_M_report_32 : decode b_M_report 32 = .ok (.iload_n 2, 1) := by decide +kernel
theorem d_M_report_33 : decode b_M_report 33 = .ok (.istore_n 3, 1) := by decide +kernel
theorem d_M_report_34 : decode b_M_report 34 = .ok (.iconst 0, 1) := by decide +kernel
theorem d_M_report_35 : decode b_M_report 35 = .ok (.istore 4, 2) := by decide +kernel
theorem d_M_report_37 : decode b_M_report 37 = .ok (.iload 4, 2) := by decide +kernel
theorem d_M_report_39 : decode b_M_report 39 = .ok (.aload_n 0, 1) := by decide +kernel
theorem d_M_report_40 : decode b_M_report 40 = .ok (.getfield 47, 3) := by decide +kernel
theorem d_M_report_43 : decode b_M_report 43 = .ok (.if_icmp .ge 30, 3) := by decide +kernel
theorem d_M_report_46 : decode b_M_report 46 = .ok (.aload_n 0, 1) := by decide +kernel
theorem d_M_report_47 : decode b_M_report 47 = .ok (.getfield 22, 3) := by decide +kernel
theorem d_M_report_50 : decode b_M_report 50 = .ok (.iload 4, 2) := by decide +kernel
theorem d_M_report_52 : decode b_M_report 52 = .ok (.iaload, 1) := by decide +kernel
theorem d_M_report_53 : decode b_M_report 53 = .ok (.iload_n 1, 1) := by decide +kernel
theorem d_M_report_54 : decode b_M_report 54 = .ok (.if_icmp .ne 13, 3) := by decide +kernel
theorem d_M_report_57 : decode b_M_report 57 = .ok (.iload_n 3, 1) := by decide +kernel
theorem d_M_report_58 : decode b_M_report 58 = .ok (.ifCond .ne 6, 3) := by decide +kernel
theorem d_M_report_61 : decode b_M_report 61 = .ok (.iload 4, 2) := by decide +kernel
theorem d_M_report_63 : decode b_M_report 63 = .ok (.ireturn, 1) := by decide +kernel
theorem d_M_report_64 : decode b_M_report 64 = .ok (.iinc 3 (-1), 3) := by decide +kernel
theorem d_M_report_67 : decode b_M_report 67 = .ok (.iinc 4 1, 3) := by decide +kernel
theorem d_M_report_70 : decode b_M_report 70 = .ok (.goto (-33), 3) := by decide +kernel
theorem d_M_report_73 : decode b_M_report 73 = .ok (.iconst (-1), 1) := by decide +kernel
theorem d_M_report_74 : decode b_M_report 74 = .ok (.ireturn, 1) := by decide +kernel
theorem d_M_room_0 : decode b_M_room 0 = .ok (.aload_n 0, 1) := by decide +kernel
theorem d_M_room_1 : decode b_M_room 1 = .ok (.iload_n 1, 1) := by decide +kernel
theorem d_M_room_2 : decode b_M_room 2 = .ok (.i2l, 1) := by decide +kernel
theorem d_M_room_3 : decode b_M_room 3 = .ok (.lconst 0, 1) := by decide +kernel
theorem d_M_room_4 : decode b_M_room 4 = .ok (.ldc2_w 60, 3) := by decide +kernel
theorem d_M_room_7 : decode b_M_room 7 = .ok (.invokestatic 50, 3) := by decide +kernel
theorem d_M_room_10 : decode b_M_room 10 = .ok (.ifCond .eq 7, 3) := by decide +kernel
theorem d_M_room_13 : decode b_M_room 13 = .ok (.iload_n 2, 1) := by decide +kernel
theorem d_M_room_14 : decode b_M_room 14 = .ok (.ifCond .ge 7, 3) := by decide +kernel
theorem d_M_room_17 : decode b_M_room 17 = .ok (.iconst 1, 1) := by decide +kernel
theorem d_M_room_18 : decode b_M_room 18 = .ok (.goto 4, 3) := by decide +kernel
theorem d_M_room_21 : decode b_M_room 21 = .ok (.iconst 0, 1) := by decide +kernel
theorem d_M_room_22 : decode b_M_room 22 = .ok (.iconst 0, 1) := by decide +kernel
theorem d_M_room_23 : decode b_M_room 23 = .ok (.iconst 0, 1) := by decide +kernel
theorem d_M_room_24 : decode b_M_room 24 = .ok (.invokevirtual 62, 3) := by decide +kernel
theorem d_M_room_27 : decode b_M_room 27 = .ok (.ifCond .eq 5, 3) := by decide +kernel
theorem d_M_room_30 : decode b_M_room 30 = .ok (.iconst 0, 1) := by decide +kernel
theorem d_M_room_31 : decode b_M_room 31 = .ok (.ireturn, 1) := by decide +kernel
theorem d_M_room_32 : decode b_M_room 32 = .ok (.iload_n 2, 1) := by decide +kernel
theorem d_M_room_33 : decode b_M_room 33 = .ok (.istore_n 3, 1) := by decide +kernel
theorem d_M_room_34 : decode b_M_room 34 = .ok (.iconst 0, 1) := by decide +kernel
theorem d_M_room_35 : decode b_M_room 35 = .ok (.istore 4, 2) := by decide +kernel
theorem d_M_room_37 : decode b_M_room 37 = .ok (.iload 4, 2) := by decide +kernel
theorem d_M_room_39 : decode b_M_room 39 = .ok (.aload_n 0, 1) := by decide +kernel
theorem d_M_room_40 : decode b_M_room 40 = .ok (.getfield 47, 3) := by decide +kernel
theorem d_M_room_43 : decode b_M_room 43 = .ok (.if_icmp .ge 30, 3) := by decide +kernel
theorem d_M_room_46 : decode b_M_room 46 = .ok (.aload_n 0, 1) := by decide +kernel
theorem d_M_room_47 : decode b_M_room 47 = .ok (.getfield 13, 3) := by decide +kernel
theorem d_M_room_50 : decode b_M_room 50 = .ok (.iload 4, 2) := by decide +kernel
theorem d_M_room_52 : decode b_M_room 52 = .ok (.iaload, 1) := by decide +kernel
theorem d_M_room_53 : decode b_M_room 53 = .ok (.iload_n 1, 1) := by decide +kernel
theorem d_M_room_54 : decode b_M_room 54 = .ok (.if_icmp .ne 13, 3) := by decide +kernel
theorem d_M_room_57 : decode b_M_room 57 = .ok (.iload_n 3, 1) := by decide +kernel
theorem d_M_room_58 : decode b_M_room 58 = .ok (.ifCond .ne 6, 3) := by decide +kernel
theorem d_M_room_61 : decode b_M_room 61 = .ok (.iload 4, 2) := by decide +kernel
theorem d_M_room_63 : decode b_M_room 63 = .ok (.ireturn, 1) := by decide +kernel
theorem d_M_room_64 : decode b_M_room 64 = .ok (.iinc 3 (-1), 3) := by decide +kernel
theorem d_M_room_67 : decode b_M_room 67 = .ok (.iinc 4 1, 3) := by decide +kernel
theorem d_M_room_70 : decode b_M_room 70 = .ok (.goto (-33), 3) := by decide +kernel
theorem d_M_room_73 : decode b_M_room 73 = .ok (.iconst (-1), 1) := by decide +kernel
theorem d_M_room_74 : decode b_M_room 74 = .ok (.ireturn, 1) := by decide +kernel
