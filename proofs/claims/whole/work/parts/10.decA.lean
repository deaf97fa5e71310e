theorem d_A_init_0 : decode b_A_init 0 = .ok (.aload_n 0, 1) := by decide +kernel
theorem d_A_init_1 : decode b_A_init 1 = .ok (.invokespecial 1, 3) := by decide +kernel
theorem d_A_init_4 : decode b_A_init 4 = .ok (.aload_n 0, 1) := by decide +kernel
theorem d_A_init_5 : decode b_A_init 5 = .ok (.new 7, 3) := by decide +kernel
theorem d_A_init_8 : decode b_A_init 8 = .ok (.dup, 1) := by decide +kernel
theorem d_A_init_9 : decode b_A_init 9 = .ok (.invokespecial 9, 3) := by decide +kernel
theorem d_A_init_12 : decode b_A_init 12 = .ok (.putfield 10, 3) := by decide +kernel
theorem d_A_init_15 : decode b_A_init 15 = .ok (.aload_n 0, 1) := by decide +kernel
theorem d_A_init_16 : decode b_A_init 16 = .ok (.new 16, 3) := by decide +kernel
theorem d_A_init_19 : decode b_A_init 19 = .ok (.dup, 1) := by decide +kernel
theorem d_A_init_20 : decode b_A_init 20 = .ok (.invokespecial 18, 3) := by decide +kernel
theorem d_A_init_23 : decode b_A_init 23 = .ok (.putfield 19, 3) := by decide +kernel
theorem d_A_init_26 : decode b_A_init 26 = .ok (.aload_n 0, 1) := by decide +kernel
theorem d_A_init_27 : decode b_A_init 27 = .ok (.new 16, 3) := by decide +kernel
theorem d_A_init_30 : decode b_A_init 30 = .ok (.dup, 1) := by decide +kernel
theorem d_A_init_31 : decode b_A_init 31 = .ok (.invokespecial 18, 3) := by decide +kernel
theorem d_A_init_34 : decode b_A_init 34 = .ok (.putfield 23, 3) := by decide +kernel
theorem d_A_init_37 : decode b_A_init 37 = .ok (.aload_n 0, 1) := by decide +kernel
theorem d_A_init_38 : decode b_A_init 38 = .ok (.new 16, 3) := by decide +kernel
theorem d_A_init_41 : decode b_A_init 41 = .ok (.dup, 1) := by decide +kernel
theorem d_A_init_42 : decode b_A_init 42 = .ok (.invokespecial 18, 3) := by decide +kernel
theorem d_A_init_45 : decode b_A_init 45 = .ok (.putfield 26, 3) := by decide +kernel
theorem d_A_init_48 : decode b_A_init 48 = .ok (.aload_n 0, 1) := by decide +kernel
theorem d_A_init_49 : decode b_A_init 49 = .ok (.bipush 6, 2) := by decide +kernel
theorem d_A_init_51 : decode b_A_init 51 = .ok (.newarray .int, 2) := by decide +kernel
theorem d_A_init_53 : decode b_A_init 53 = .ok (.putfield 29, 3) := by decide +kernel
theorem d_A_init_56 : decode b_A_init 56 = .ok (.aload_n 0, 1) := by decide +kernel
theorem d_A_init_57 : decode b_A_init 57 = .ok (.bipush 6, 2) := by decide +kernel
theorem d_A_init_59 : decode b_A_init 59 = .ok (.newarray .int, 2) := by decide +kernel
theorem d_A_init_61 : decode b_A_init 61 = .ok (.putfield 33, 3) := by decide +kernel
theorem d_A_init_64 : decode b_A_init 64 = .ok (.return_, 1) := by decide +kernel
theorem d_D_init_0 : decode b_D_init 0 = .ok (.aload_n 0, 1) := by decide +kernel
theorem d_D_init_1 : decode b_D_init 1 = .ok (.invokespecial 1, 3) := by decide +kernel
theorem d_D_init_4 : decode b_D_init 4 = .ok (.aload_n 0, 1) := by decide +kernel
theorem d_D_init_5 : decode b_D_init 5 = .ok (.lconst 0, 1) := by decide +kernel
theorem d_D_init_6 : decode b_D_init 6 = .ok (.putfield 7, 3) := by decide +kernel
theorem d_D_init_9 : decode b_D_init 9 = .ok (.return_, 1) := by decide +kernel
theorem d_A_seed_0 : decode b_A_seed 0 = .ok (.aload_n 0, 1) := by decide +kernel
theorem d_A_seed_1 : decode b_A_seed 1 = .ok (.getfield 10, 3) := by decide +kernel
theorem d_A_seed_4 : decode b_A_seed 4 = .ok (.lload_n 1, 1) := by decide +kernel
theorem d_A_seed_5 : decode b_A_seed 5 = .ok (.putfield 36, 3) := by decide +kernel
theorem d_A_seed_8 : decode b_A_seed 8 = .ok (.return_, 1) := by decide +kernel
theorem d_A_thing_0 : decode b_A_thing 0 = .ok (.iload_n 1, 1) := by decide +kernel
theorem d_A_thing_1 : decode b_A_thing 1 = .ok (.bipush 6, 2) := by decide +kernel
theorem d_A_thing_3 : decode b_A_thing 3 = .ok (.invokestatic 40, 3) := by decide +kernel
theorem d_A_thing_6 : decode b_A_thing 6 = .ok (.iload_n 2, 1) := by decide +kernel
theorem d_A_thing_7 : decode b_A_thing 7 = .ok (.bipush 16, 2) := by decide +kernel
theorem d_A_thing_9 : decode b_A_thing 9 = .ok (.invokestatic 40, 3) := by decide +kernel
theorem d_A_thing_12 : decode b_A_thing 12 = .ok (.aload_n 0, 1) := by decide +kernel
theorem d_A_thing_13 : decode b_A_thing 13 = .ok (.getfield 19, 3) := by decide +kernel
theorem d_A_thing_16 : decode b_A_thing 16 = .ok (.invokevirtual 44, 3) := by decide +kernel
theorem d_A_thing_19 : decode b_A_thing 19 = .ok (.bipush 64, 2) := by decide +kernel
theorem d_A_thing_21 : decode b_A_thing 21 = .ok (.if_icmp .lt 13, 3) := by decide +kernel
theorem d_A_thing_24 : decode b_A_thing 24 = .ok (.new 48, 3) := by decide +kernel
theorem d_A_thing_27 : decode b_A_thing 27 = .ok (.dup, 1) := by decide +kernel
theorem d_A_thing_28 : decode b_A_thing 28 = .ok (.ldc 50, 2) := by decide +kernel
theorem d_A_thing_30 : decode b_A_thing 30 = .ok (.invokespecial 52, 3) := by decide +kernel
theorem d_A_thing_33 : decode b_A_thing 33 = .ok (.athrow, 1) := by decide +kernel
theorem d_A_thing_34 : decode b_A_thing 34 = .ok (.aload_n 0, 1) := by decide +kernel
theorem d_A_thing_35 : decode b_A_thing 35 = .ok (.getfield 19, 3) := by decide +kernel
theorem d_A_thing_38 : decode b_A_thing 38 = .ok (.invokevirtual 44, 3) := by decide +kernel
theorem d_A_thing_41 : decode b_A_thing 41 = .ok (.istore_n 3, 1) := by decide +kernel
theorem d_A_thing_42 : decode b_A_thing 42 = .ok (.aload_n 0, 1) := by decide +kernel
theorem d_A_thing_43 : decode b_A_thing 43 = .ok (.getfield 19, 3) := by decide +kernel
theorem d_A_thing_46 : decode b_A_thing 46 = .ok (.new 55, 3) := by decide +kernel
theorem d_A_thing_49 : decode b_A_thing 49 = .ok (.dup, 1) := by decide +kernel
theorem d_A_thing_50 : decode b_A_thing 50 = .ok (.iload_n 3, 1) := by decide +kernel
theorem d_A_thing_51 : decode b_A_thing 51 = .ok (.iload_n 1, 1) := by decide +kernel
theorem d_A_thing_52 : decode b_A_thing 52 = .ok (.iload_n 2, 1) := by decide +kernel
theorem d_A_thing_53 : decode b_A_thing 53 = .ok (.invokespecial 57, 3) := by decide +kernel
theorem d_A_thing_56 : decode b_A_thing 56 = .ok (.invokevirtual 60, 3) := by decide +kernel
theorem d_A_thing_59 : decode b_A_thing 59 = .ok (.pop, 1) := by decide +kernel
theorem d_A_thing_60 : decode b_A_thing 60 = .ok (.iload_n 3, 1) := by decide +kernel
theorem d_A_thing_61 : decode b_A_thing 61 = .ok (.ireturn, 1) := by decide +kernel
theorem d_A_needBelow_0 : decode b_A_needBelow 0 = .ok (.iload_n 0, 1) := by decide +kernel
theorem d_A_needBelow_1 : decode b_A_needBelow 1 = .ok (.ifCond .lt 8, 3) := by decide +kernel
theorem d_A_needBelow_4 : decode b_A_needBelow 4 = .ok (.iload_n 0, 1) := by decide +kernel
theorem d_A_needBelow_5 : decode b_A_needBelow 5 = .ok (.iload_n 1, 1) := by decide +kernel
theorem d_A_needBelow_6 : decode b_A_needBelow 6 = .ok (.if_icmp .lt 13, 3) := by decide +kernel
theorem d_A_needBelow_9 : decode b_A_needBelow 9 = .ok (.new 188, 3) := by decide +kernel
theorem d_A_needBelow_12 : decode b_A_needBelow 12 = .ok (.dup, 1) := by decide +kernel
theorem d_A_needBelow_13 : decode b_A_needBelow 13 = .ok (.ldc 190, 2) := by decide +kernel
theorem d_A_needBelow_15 : decode b_A_needBelow 15 = .ok (.invokespecial 192, 3) := by decide +kernel
theorem d_A_needBelow_18 : decode b_A_needBelow 18 = .ok (.athrow, 1) := by decide +kernel
theorem d_A_needBelow_19 : decode b_A_needBelow 19 = .ok (.return_, 1) := by decide +kernel
theorem d_T_init_0 : decode b_T_init 0 = .ok (.aload_n 0, 1) := by decide +kernel
theorem d_T_init_1 : decode b_T_init 1 = .ok (.invokespecial 3, 3) := by decide +kernel
theorem d_T_init_4 : decode b_T_init 4 = .ok (.aload_n 0, 1) := by decide +kernel
theorem d_T_init_5 : decode b_T_init 5 = .ok (.new 9, 3) := by decide +kernel
theorem d_T_init_8 : decode b_T_init 8 = .ok (.dup, 1) := by decide +kernel
theorem d_T_init_9 : decode b_T_init 9 = .ok (.invokespecial 11, 3) := by decide +kernel
theorem d_T_init_12 : decode b_T_init 12 = .ok (.putfield 12, 3) := by decide +kernel
theorem d_T_init_15 : decode b_T_init 15 = .ok (.aload_n 0, 1) := by decide +kernel
theorem d_T_init_16 : decode b_T_init 16 = .ok (.iconst (-1), 1) := by decide +kernel
theorem d_T_init_17 : decode b_T_init 17 = .ok (.putfield 18, 3) := by decide +kernel
theorem d_T_init_20 : decode b_T_init 20 = .ok (.aload_n 0, 1) := by decide +kernel
theorem d_T_init_21 : decode b_T_init 21 = .ok (.iconst 0, 1) := by decide +kernel
theorem d_T_init_22 : decode b_T_init 22 = .ok (.putfield 22, 3) := by decide +kernel
theorem d_T_init_25 : decode b_T_init 25 = .ok (.aload_n 0, 1) := by decide +kernel
theorem d_T_init_26 : decode b_T_init 26 = .ok (.iload_n 1, 1) := by decide +kernel
theorem d_T_init_27 : decode b_T_init 27 = .ok (.putfield 25, 3) := by decide +kernel
theorem d_T_init_30 : decode b_T_init 30 = .ok (.aload_n 0, 1) := by decide +kernel
theorem d_T_init_31 : decode b_T_init 31 = .ok (.iload_n 2, 1) := by decide +kernel
theorem d_T_init_32 : decode b_T_init 32 = .ok (.putfield 28, 3) := by decide +kernel
theorem d_T_init_35 : decode b_T_init 35 = .ok (.aload_n 0, 1) := by decide +kernel
theorem d_T_init_36 : decode b_T_init 36 = .ok (.iload_n 3, 1) := by decide +kernel
theorem d_T_init_37 : decode b_T_init 37 = .ok (.putfield 31, 3) := by decide +kernel
theorem d_T_init_40 : decode b_T_init 40 = .ok (.return_, 1) := by decide +kernel
theorem d_A_list_0 : decode b_A_list 0 = .ok (.iload_n 1, 1) := by decide +kernel
theorem d_A_list_1 : decode b_A_list 1 = .ok (.ifCond .lt 14, 3) := by decide +kernel
theorem d_A_list_4 : decode b_A_list 4 = .ok (.iload_n 1, 1) := by decide +kernel
theorem d_A_list_5 : decode b_A_list 5 = .ok (.aload_n 0, 1) := by decide +kernel
theorem d_A_list_6 : decode b_A_list 6 = .ok (.getfield 19, 3) := by decide +kernel
theorem d_A_list_9 : decode b_A_list 9 = .ok (.invokevirtual 44, 3) := by decide +kernel
theorem d_A_list_12 : decode b_A_list 12 = .ok (.if_icmp .le 13, 3) := by decide +kernel
theorem d_A_list_15 : decode b_A_list 15 = .ok (.new 64, 3) := by decide +kernel
theorem d_A_list_18 : decode b_A_list 18 = .ok (.dup, 1) := by decide +kernel
theorem d_A_list_19 : decode b_A_list 19 = .ok (.ldc 66, 2) := by decide +kernel
theorem d_A_list_21 : decode b_A_list 21 = .ok (.invokespecial 68, 3) := by decide +kernel
theorem d_A_list_24 : decode b_A_list 24 = .ok (.athrow, 1) := by decide +kernel
theorem d_A_list_25 : decode b_A_list 25 = .ok (.aload_n 0, 1) := by decide +kernel
theorem d_A_list_26 : decode b_A_list 26 = .ok (.invokevirtual 69, 3) := by decide +kernel
theorem d_A_list_29 : decode b_A_list 29 = .ok (.aload_n 0, 1) := by decide +kernel
theorem d_A_list_30 : decode b_A_list 30 = .ok (.iload_n 1, 1) := by decide +kernel
theorem d_A_list_31 : decode b_A_list 31 = .ok (.invokevirtual 72, 3) := by decide +kernel
theorem d_A_list_34 : decode b_A_list 34 = .ok (.iconst 0, 1) := by decide +kernel
theorem d_A_list_35 : decode b_A_list 35 = .ok (.istore_n 2, 1) := by decide +kernel
theorem d_A_list_36 : decode b_A_list 36 = .ok (.iload_n 2, 1) := by decide +kernel
theorem d_A_list_37 : decode b_A_list 37 = .ok (.bipush 6, 2) := by decide +kernel
theorem d_A_list_39 : decode b_A_list 39 = .ok (.if_icmp .ge 24, 3) := by decide +kernel
theorem d_A_list_42 : decode b_A_list 42 = .ok (.aload_n 0, 1) := by decide +kernel
theorem d_A_list_43 : decode b_A_list 43 = .ok (.iload_n 2, 1) := by decide +kernel
theorem d_A_list_44 : decode b_A_list 44 = .ok (.invokevirtual 76, 3) := by decide +kernel
theorem d_A_list_47 : decode b_A_list 47 = .ok (.aload_n 0, 1) := by decide +kernel
theorem d_A_list_48 : decode b_A_list 48 = .ok (.aload_n 0, 1) := by decide +kernel
theorem d_A_list_49 : decode b_A_list 49 = .ok (.getfield 29, 3) := by decide +kernel
theorem d_A_list_52 : decode b_A_list 52 = .ok (.iload_n 2, 1) := by decide +kernel
theorem d_A_list_53 : decode b_A_list 53 = .ok (.iaload, 1) := by decide +kernel
theorem d_A_list_54 : decode b_A_list 54 = .ok (.invokevirtual 79, 3) := by decide +kernel
theorem d_A_list_57 : decode b_A_list 57 = .ok (.iinc 2 1, 3) := by decide +kernel
theorem d_A_list_60 : decode b_A_list 60 = .ok (.goto (-24), 3) := by decide +kernel
theorem d_A_list_63 : decode b_A_list 63 = .ok (.aload_n 0, 1) := by decide +kernel
theorem d_A_list_64 : decode b_A_list 64 = .ok (.getfield 23, 3) := by decide +kernel
theorem d_A_list_67 : decode b_A_list 67 = .ok (.invokevirtual 44, 3) := by decide +kernel
theorem d_A_list_70 : decode b_A_list 70 = .ok (.ireturn, 1) := by decide +kernel
theorem d_A_forgetLatest_0 : decode b_A_forgetLatest 0 = .ok (.iconst 0, 1) := by decide +kernel
theorem d_A_forgetLatest_1 : decode b_A_forgetLatest 1 = .ok (.istore_n 1, 1) := by decide +kernel
theorem d_A_forgetLatest_2 : decode b_A_forgetLatest 2 = .ok (.iload_n 1, 1) := by decide +kernel
theorem d_A_forgetLatest_3 : decode b_A_forgetLatest 3 = .ok (.aload_n 0, 1) := by decide +kernel
theorem d_A_forgetLatest_4 : decode b_A_forgetLatest 4 = .ok (.getfield 23, 3) := by decide +kernel
theorem d_A_forgetLatest_7 : decode b_A_forgetLatest 7 = .ok (.invokevirtual 44, 3) := by decide +kernel
theorem d_A_forgetLatest_10 : decode b_A_forgetLatest 10 = .ok (.if_icmp .ge 24, 3) := by decide +kernel
theorem d_A_forgetLatest_13 : decode b_A_forgetLatest 13 = .ok (.aload_n 0, 1) := by decide +kernel
theorem d_A_forgetLatest_14 : decode b_A_forgetLatest 14 = .ok (.getfield 23, 3) := by decide +kernel
theorem d_A_forgetLatest_17 : decode b_A_forgetLatest 17 = .ok (.iload_n 1, 1) := by decide +kernel
theorem d_A_forgetLatest_18 : decode b_A_forgetLatest 18 = .ok (.invokevirtual 82, 3) := by decide +kernel
theorem d_A_forgetLatest_21 : decode b_A_forgetLatest 21 = .ok (.checkcast 55, 3) := by decide +kernel
theorem d_A_forgetLatest_24 : decode b_A_forgetLatest 24 = .ok (.iconst (-1), 1) := by decide +kernel
theorem d_A_forgetLatest_25 : decode b_A_forgetLatest 25 = .ok (.putfield 101, 3) := by decide +kernel
theorem d_A_forgetLatest_28 : decode b_A_forgetLatest 28 = .ok (.iinc 1 1, 3) := by decide +kernel
theorem d_A_forgetLatest_31 : decode b_A_forgetLatest 31 = .ok (.goto (-29), 3) := by decide +kernel
theorem d_A_forgetLatest_34 : decode b_A_forgetLatest 34 = .ok (.aload_n 0, 1) := by decide +kernel
theorem d_A_forgetLatest_35 : decode b_A_forgetLatest 35 = .ok (.getfield 23, 3) := by decide +kernel
theorem d_A_forgetLatest_38 : decode b_A_forgetLatest 38 = .ok (.invokevirtual 166, 3) := by decide +kernel
theorem d_A_forgetLatest_41 : decode b_A_forgetLatest 41 = .ok (.return_, 1) := by decide +kernel
theorem d_A_shareOut_0 : decode b_A_shareOut 0 = .ok (.iload_n 1, 1) := by decide +kernel
theorem d_A_shareOut_1 : decode b_A_shareOut 1 = .ok (.istore_n 2, 1) := by decide +kernel
theorem d_A_shareOut_2 : decode b_A_shareOut 2 = .ok (.iconst 0, 1) := by decide +kernel
theorem d_A_shareOut_3 : decode b_A_shareOut 3 = .ok (.istore_n 3, 1) := by decide +kernel
theorem d_A_shareOut_4 : decode b_A_shareOut 4 = .ok (.iload_n 3, 1) := by decide +kernel
theorem d_A_shareOut_5 : decode b_A_shareOut 5 = .ok (.bipush 6, 2) := by decide +kernel
theorem d_A_shareOut_7 : decode b_A_shareOut 7 = .ok (.if_icmp .ge 24, 3) := by decide +kernel
theorem d_A_shareOut_10 : decode b_A_shareOut 10 = .ok (.aload_n 0, 1) := by decide +kernel
theorem d_A_shareOut_11 : decode b_A_shareOut 11 = .ok (.iload_n 3, 1) := by decide +kernel
theorem d_A_shareOut_12 : decode b_A_shareOut 12 = .ok (.iload_n 1, 1) := by decide +kernel
theorem d_A_shareOut_13 : decode b_A_shareOut 13 = .ok (.invokevirtual 169, 3) := by decide +kernel
theorem d_A_shareOut_16 : decode b_A_shareOut 16 = .ok (.iload_n 2, 1) := by decide +kernel
theorem d_A_shareOut_17 : decode b_A_shareOut 17 = .ok (.aload_n 0, 1) := by decide +kernel
theorem d_A_shareOut_18 : decode b_A_shareOut 18 = .ok (.getfield 29, 3) := by decide +kernel
theorem d_A_shareOut_21 : decode b_A_shareOut 21 = .ok (.iload_n 3, 1) := by decide +kernel
theorem d_A_shareOut_22 : decode b_A_shareOut 22 = .ok (.iaload, 1) := by decide +kernel
theorem d_A_shareOut_23 : decode b_A_shareOut 23 = .ok (.isub, 1) := by decide +kernel
theorem d_A_shareOut_24 : decode b_A_shareOut 24 = .ok (.istore_n 2, 1) := by decide +kernel
theorem d_A_shareOut_25 : decode b_A_shareOut 25 = .ok (.iinc 3 1, 3) := by decide +kernel
theorem d_A_shareOut_28 : decode b_A_shareOut 28 = .ok (.goto (-24), 3) := by decide +kernel
theorem d_A_shareOut_31 : decode b_A_shareOut 31 = .ok (.iconst 0, 1) := by decide +kernel
theorem d_A_shareOut_32 : decode b_A_shareOut 32 = .ok (.istore_n 3, 1) := by decide +kernel
theorem d_A_shareOut_33 : decode b_A_shareOut 33 = .ok (.iload_n 3, 1) := by decide +kernel
theorem d_A_shareOut_34 : decode b_A_shareOut 34 = .ok (.iload_n 2, 1) := by decide +kernel
theorem d_A_shareOut_35 : decode b_A_shareOut 35 = .ok (.if_icmp .ge 19, 3) := by decide +kernel
theorem d_A_shareOut_38 : decode b_A_shareOut 38 = .ok (.iload_n 3, 1) := by decide +kernel
theorem d_A_shareOut_39 : decode b_A_shareOut 39 = .ok (.bipush 6, 2) := by decide +kernel
theorem d_A_shareOut_41 : decode b_A_shareOut 41 = .ok (.if_icmp .ge 13, 3) := by decide +kernel
theorem d_A_shareOut_44 : decode b_A_shareOut 44 = .ok (.aload_n 0, 1) := by decide +kernel
theorem d_A_shareOut_45 : decode b_A_shareOut 45 = .ok (.invokevirtual 172, 3) := by decide +kernel
theorem d_A_shareOut_48 : decode b_A_shareOut 48 = .ok (.iinc 3 1, 3) := by decide +kernel
theorem d_A_shareOut_51 : decode b_A_shareOut 51 = .ok (.goto (-18), 3) := by decide +kernel
theorem d_A_shareOut_54 : decode b_A_shareOut 54 = .ok (.return_, 1) := by decide +kernel
theorem d_A_giveRoundedDown_0 : decode b_A_giveRoundedDown 0 = .ok (.aload_n 0, 1) := by decide +kernel
theorem d_A_giveRoundedDown_1 : decode b_A_giveRoundedDown 1 = .ok (.getfield 19, 3) := by decide +kernel
theorem d_A_giveRoundedDown_4 : decode b_A_giveRoundedDown 4 = .ok (.invokevirtual 44, 3) := by decide +kernel
theorem d_A_giveRoundedDown_7 : decode b_A_giveRoundedDown 7 = .ok (.istore_n 3, 1) := by decide +kernel
theorem d_A_giveRoundedDown_8 : decode b_A_giveRoundedDown 8 = .ok (.iload_n 2, 1) := by decide +kernel
theorem d_A_giveRoundedDown_9 : decode b_A_giveRoundedDown 9 = .ok (.aload_n 0, 1) := by decide +kernel
theorem d_A_giveRoundedDown_10 : decode b_A_giveRoundedDown 10 = .ok (.iload_n 1, 1) := by decide +kernel
theorem d_A_giveRoundedDown_11 : decode b_A_giveRoundedDown 11 = .ok (.invokevirtual 175, 3) := by decide +kernel
theorem d_A_giveRoundedDown_14 : decode b_A_giveRoundedDown 14 = .ok (.imul, 1) := by decide +kernel
theorem d_A_giveRoundedDown_15 : decode b_A_giveRoundedDown 15 = .ok (.istore 4, 2) := by decide +kernel
theorem d_A_giveRoundedDown_17 : decode b_A_giveRoundedDown 17 = .ok (.aload_n 0, 1) := by decide +kernel
theorem d_A_giveRoundedDown_18 : decode b_A_giveRoundedDown 18 = .ok (.getfield 29, 3) := by decide +kernel
theorem d_A_giveRoundedDown_21 : decode b_A_giveRoundedDown 21 = .ok (.iload_n 1, 1) := by decide +kernel
theorem d_A_giveRoundedDown_22 : decode b_A_giveRoundedDown 22 = .ok (.iload_n 3, 1) := by decide +kernel
theorem d_A_giveRoundedDown_23 : decode b_A_giveRoundedDown 23 = .ok (.ifCond .ne 7, 3) := by decide +kernel
theorem d_A_giveRoundedDown_26 : decode b_A_giveRoundedDown 26 = .ok (.iconst 0, 1) := by decide +kernel
theorem d_A_giveRoundedDown_27 : decode b_A_giveRoundedDown 27 = .ok (.goto 7, 3) := by decide +kernel
theorem d_A_giveRoundedDown_30 : decode b_A_giveRoundedDown 30 = .ok (.iload 4, 2) := by decide +kernel
theorem d_A_giveRoundedDown_32 : decode b_A_giveRoundedDown 32 = .ok (.iload_n 3, 1) := by decide +kernel
theorem d_A_giveRoundedDown_33 : decode b_A_giveRoundedDown 33 = .ok (.idiv, 1) := by decide +kernel
theorem d_A_giveRoundedDown_34 : decode b_A_giveRoundedDown 34 = .ok (.iastore, 1) := by decide +kernel
theorem d_A_giveRoundedDown_35 : decode b_A_giveRoundedDown 35 = .ok (.aload_n 0, 1) := by decide +kernel
theorem d_A_giveRoundedDown_36 : decode b_A_giveRoundedDown 36 = .ok (.getfield 33, 3) := by decide +kernel
theorem d_A_giveRoundedDown_39 : decode b_A_giveRoundedDown 39 = .ok (.iload_n 1, 1) := by decide +kernel
theorem d_A_giveRoundedDown_40 : decode b_A_giveRoundedDown 40 = .ok (.iload_n 3, 1) := by decide +kernel
theorem d_A_giveRoundedDown_41 : decode b_A_giveRoundedDown 41 = .ok (.ifCond .ne 7, 3) := by decide +kernel
theorem d_A_giveRoundedDown_44 : decode b_A_giveRoundedDown 44 = .ok (.iconst 0, 1) := by decide +kernel
theorem d_A_giveRoundedDown_45 : decode b_A_giveRoundedDown 45 = .ok (.goto 7, 3) := by decide +kernel
theorem d_A_giveRoundedDown_48 : decode b_A_giveRoundedDown 48 = .ok (.iload 4, 2) := by decide +kernel
theorem d_A_giveRoundedDown_50 : decode b_A_giveRoundedDown 50 = .ok (.iload_n 3, 1) := by decide +kernel
theorem d_A_giveRoundedDown_51 : decode b_A_giveRoundedDown 51 = .ok (.irem, 1) := by decide +kernel
theorem d_A_giveRoundedDown_52 : decode b_A_giveRoundedDown 52 = .ok (.iastore, 1) := by decide +kernel
theorem d_A_giveRoundedDown_53 : decode b_A_giveRoundedDown 53 = .ok (.return_, 1) := by decide +kernel
theorem d_A_countThings_0 : decode b_A_countThings 0 = .ok (.iconst 0, 1) := by decide +kernel
theorem d_A_countThings_1 : decode b_A_countThings 1 = .ok (.istore_n 2, 1) := by decide +kernel
theorem d_A_countThings_2 : decode b_A_countThings 2 = .ok (.iconst 0, 1) := by decide +kernel
theorem d_A_countThings_3 : decode b_A_countThings 3 = .ok (.istore_n 3, 1) := by decide +kernel
theorem d_A_countThings_4 : decode b_A_countThings 4 = .ok (.iload_n 3, 1) := by decide +kernel
theorem d_A_countThings_5 : decode b_A_countThings 5 = .ok (.aload_n 0, 1) := by decide +kernel
theorem d_A_countThings_6 : decode b_A_countThings 6 = .ok (.getfield 19, 3) := by decide +kernel
theorem d_A_countThings_9 : decode b_A_countThings 9 = .ok (.invokevirtual 44, 3) := by decide +kernel
theorem d_A_countThings_12 : decode b_A_countThings 12 = .ok (.if_icmp .ge 30, 3) := by decide +kernel
theorem d_A_countThings_15 : decode b_A_countThings 15 = .ok (.aload_n 0, 1) := by decide +kernel
theorem d_A_countThings_16 : decode b_A_countThings 16 = .ok (.getfield 19, 3) := by decide +kernel
theorem d_A_countThings_19 : decode b_A_countThings 19 = .ok (.iload_n 3, 1) := by decide +kernel
theorem d_A_countThings_20 : decode b_A_countThings 20 = .ok (.invokevirtual 82, 3) := by decide +kernel
theorem d_A_countThings_23 : decode b_A_countThings 23 = .ok (.checkcast 55, 3) := by decide +kernel
theorem d_A_countThings_26 : decode b_A_countThings 26 = .ok (.getfield 178, 3) := by decide +kernel
theorem d_A_countThings_29 : decode b_A_countThings 29 = .ok (.iload_n 1, 1) := by decide +kernel
theorem d_A_countThings_30 : decode b_A_countThings 30 = .ok (.if_icmp .ne 6, 3) := by decide +kernel
theorem d_A_countThings_33 : decode b_A_countThings 33 = .ok (.iinc 2 1, 3) := by decide +kernel
theorem d_A_countThings_36 : decode b_A_countThings 36 = .ok (.iinc 3 1, 3) := by decide +kernel
theorem d_A_countThings_39 : decode b_A_countThings 39 = .ok (.goto (-35), 3) := by decide +kernel
theorem d_A_countThings_42 : decode b_A_countThings 42 = .ok (.iload_n 2, 1) := by decide +kernel
theorem d_A_countThings_43 : decode b_A_countThings 43 = .ok (.ireturn, 1) := by decide +kernel
theorem d_A_giveOneByGreatestRest_0 : decode b_A_giveOneByGreatestRest 0 = .ok (.iconst 0, 1) := by decide +kernel
theorem d_A_giveOneByGreatestRest_1 : decode b_A_giveOneByGreatestRest 1 = .ok (.istore_n 1, 1) := by decide +kernel
theorem d_A_giveOneByGreatestRest_2 : decode b_A_giveOneByGreatestRest 2 = .ok (.iconst 1, 1) := by decide +kernel
theorem d_A_giveOneByGreatestRest_3 : decode b_A_giveOneByGreatestRest 3 = .ok (.istore_n 2, 1) := by decide +kernel
theorem d_A_giveOneByGreatestRest_4 : decode b_A_giveOneByGreatestRest 4 = .ok (.iload_n 2, 1) := by decide +kernel
theorem d_A_giveOneByGreatestRest_5 : decode b_A_giveOneByGreatestRest 5 = .ok (.bipush 6, 2) := by decide +kernel
theorem d_A_giveOneByGreatestRest_7 : decode b_A_giveOneByGreatestRest 7 = .ok (.if_icmp .ge 26, 3) := by decide +kernel
theorem d_A_giveOneByGreatestRest_10 : decode b_A_giveOneByGreatestRest 10 = .ok (.aload_n 0, 1) := by decide +kernel
theorem d_A_giveOneByGreatestRest_11 : decode b_A_giveOneByGreatestRest 11 = .ok (.getfield 33, 3) := by decide +kernel
theorem d_A_giveOneByGreatestRest_14 : decode b_A_giveOneByGreatestRest 14 = .ok (.iload_n 2, 1) := by decide +kernel
theorem d_A_giveOneByGreatestRest_15 : decode b_A_giveOneByGreatestRest 15 = .ok (.iaload, 1) := by decide +kernel
theorem d_A_giveOneByGreatestRest_16 : decode b_A_giveOneByGreatestRest 16 = .ok (.aload_n 0, 1) := by decide +kernel
theorem d_A_giveOneByGreatestRest_17 : decode b_A_giveOneByGreatestRest 17 = .ok (.getfield 33, 3) := by decide +kernel
theorem d_A_giveOneByGreatestRest_20 : decode b_A_giveOneByGreatestRest 20 = .ok (.iload_n 1, 1) := by decide +kernel
theorem d_A_giveOneByGreatestRest_21 : decode b_A_giveOneByGreatestRest 21 = .ok (.iaload, 1) := by decide +kernel
theorem d_A_giveOneByGreatestRest_22 : decode b_A_giveOneByGreatestRest 22 = .ok (.if_icmp .le 5, 3) := by decide +kernel
theorem d_A_giveOneByGreatestRest_25 : decode b_A_giveOneByGreatestRest 25 = .ok (.iload_n 2, 1) := by decide +kernel
theorem d_A_giveOneByGreatestRest_26 : decode b_A_giveOneByGreatestRest 26 = .ok (.istore_n 1, 1) := by decide +kernel
theorem d_A_giveOneByGreatestRest_27 : decode b_A_giveOneByGreatestRest 27 = .ok (.iinc 2 1, 3) := by decide +kernel
theorem d_A_giveOneByGreatestRest_30 : decode b_A_giveOneByGreatestRest 30 = .ok (.goto (-26), 3) := by decide +kernel
theorem d_A_giveOneByGreatestRest_33 : decode b_A_giveOneByGreatestRest 33 = .ok (.aload_n 0, 1) := by decide +kernel
theorem d_A_giveOneByGreatestRest_34 : decode b_A_giveOneByGreatestRest 34 = .ok (.getfield 29, 3) := by decide +kernel
theorem d_A_giveOneByGreatestRest_37 : decode b_A_giveOneByGreatestRest 37 = .ok (.iload_n 1, 1) := by decide +kernel
theorem d_A_giveOneByGreatestRest_38 : decode b_A_giveOneByGreatestRest 38 = .ok (.dup2, 1) := by decide +kernel
theorem d_A_giveOneByGreatestRest_39 : decode b_A_giveOneByGreatestRest 39 = .ok (.iaload, 1) := by decide +kernel
theorem d_A_giveOneByGreatestRest_40 : decode b_A_giveOneByGreatestRest 40 = .ok (.iconst 1, 1) := by decide +kernel
theorem d_A_giveOneByGreatestRest_41 : decode b_A_giveOneByGreatestRest 41 = .ok (.iadd, 1) := by decide +kernel
theorem d_A_giveOneByGreatestRest_42 : decode b_A_giveOneByGreatestRest 42 = .ok (.iastore, 1) := by decide +kernel
theorem d_A_giveOneByGreatestRest_43 : decode b_A_giveOneByGreatestRest 43 = .ok (.aload_n 0, 1) := by decide +kernel
theorem d_A_giveOneByGreatestRest_44 : decode b_A_giveOneByGreatestRest 44 = .ok (.getfield 33, 3) := by decide +kernel
theorem d_A_giveOneByGreatestRest_47 : decode b_A_giveOneByGreatestRest 47 = .ok (.iload_n 1, 1) := by decide +kernel
theorem d_A_giveOneByGreatestRest_48 : decode b_A_giveOneByGreatestRest 48 = .ok (.iconst (-1), 1) := by decide +kernel
theorem d_A_giveOneByGreatestRest_49 : decode b_A_giveOneByGreatestRest 49 = .ok (.iastore, 1) := by decide +kernel
theorem d_A_giveOneByGreatestRest_50 : decode b_A_giveOneByGreatestRest 50 = .ok (.return_, 1) := by decide +kernel
theorem d_A_layRow_0 : decode b_A_layRow 0 = .ok (.aload_n 0, 1) := by decide +kernel
theorem d_A_layRow_1 : decode b_A_layRow 1 = .ok (.getfield 26, 3) := by decide +kernel
theorem d_A_layRow_4 : decode b_A_layRow 4 = .ok (.invokevirtual 166, 3) := by decide +kernel
theorem d_A_layRow_7 : decode b_A_layRow 7 = .ok (.iconst 0, 1) := by decide +kernel
theorem d_A_layRow_8 : decode b_A_layRow 8 = .ok (.istore_n 2, 1) := by decide +kernel
theorem d_A_layRow_9 : decode b_A_layRow 9 = .ok (.iload_n 2, 1) := by decide +kernel
theorem d_A_layRow_10 : decode b_A_layRow 10 = .ok (.aload_n 0, 1) := by decide +kernel
theorem d_A_layRow_11 : decode b_A_layRow 11 = .ok (.getfield 19, 3) := by decide +kernel
theorem d_A_layRow_14 : decode b_A_layRow 14 = .ok (.invokevirtual 44, 3) := by decide +kernel
theorem d_A_layRow_17 : decode b_A_layRow 17 = .ok (.if_icmp .ge 38, 3) := by decide +kernel
theorem d_A_layRow_20 : decode b_A_layRow 20 = .ok (.aload_n 0, 1) := by decide +kernel
theorem d_A_layRow_21 : decode b_A_layRow 21 = .ok (.getfield 19, 3) := by decide +kernel
theorem d_A_layRow_24 : decode b_A_layRow 24 = .ok (.iload_n 2, 1) := by decide +kernel
theorem d_A_layRow_25 : decode b_A_layRow 25 = .ok (.invokevirtual 82, 3) := by decide +kernel
theorem d_A_layRow_28 : decode b_A_layRow 28 = .ok (.checkcast 55, 3) := by decide +kernel
theorem d_A_layRow_31 : decode b_A_layRow 31 = .ok (.astore_n 3, 1) := by decide +kernel
theorem d_A_layRow_32 : decode b_A_layRow 32 = .ok (.aload_n 3, 1) := by decide +kernel
theorem d_A_layRow_33 : decode b_A_layRow 33 = .ok (.getfield 178, 3) := by decide +kernel
theorem d_A_layRow_36 : decode b_A_layRow 36 = .ok (.iload_n 1, 1) := by decide +kernel
theorem d_A_layRow_37 : decode b_A_layRow 37 = .ok (.if_icmp .ne 12, 3) := by decide +kernel
theorem d_A_layRow_40 : decode b_A_layRow 40 = .ok (.aload_n 0, 1) := by decide +kernel
theorem d_A_layRow_41 : decode b_A_layRow 41 = .ok (.getfield 26, 3) := by decide +kernel
theorem d_A_layRow_44 : decode b_A_layRow 44 = .ok (.aload_n 3, 1) := by decide +kernel
theorem d_A_layRow_45 : decode b_A_layRow 45 = .ok (.invokevirtual 60, 3) := by decide +kernel
theorem d_A_layRow_48 : decode b_A_layRow 48 = .ok (.pop, 1) := by decide +kernel
theorem d_A_layRow_49 : decode b_A_layRow 49 = .ok (.iinc 2 1, 3) := by decide +kernel
theorem d_A_layRow_52 : decode b_A_layRow 52 = .ok (.goto (-43), 3) := by decide +kernel
theorem d_A_layRow_55 : decode b_A_layRow 55 = .ok (.return_, 1) := by decide +kernel
theorem d_A_takeFromRow_0 : decode b_A_takeFromRow 0 = .ok (.iconst 0, 1) := by decide +kernel
theorem d_A_takeFromRow_1 : decode b_A_takeFromRow 1 = .ok (.istore_n 2, 1) := by decide +kernel
theorem d_A_takeFromRow_2 : decode b_A_takeFromRow 2 = .ok (.iload_n 2, 1) := by decide +kernel
theorem d_A_takeFromRow_3 : decode b_A_takeFromRow 3 = .ok (.iload_n 1, 1) := by decide +kernel
theorem d_A_takeFromRow_4 : decode b_A_takeFromRow 4 = .ok (.if_icmp .ge 99, 3) := by decide +kernel
theorem d_A_takeFromRow_7 : decode b_A_takeFromRow 7 = .ok (.iload_n 2, 1) := by decide +kernel
theorem d_A_takeFromRow_8 : decode b_A_takeFromRow 8 = .ok (.aload_n 0, 1) := by decide +kernel
theorem d_A_takeFromRow_9 : decode b_A_takeFromRow 9 = .ok (.getfield 26, 3) := by decide +kernel
theorem d_A_takeFromRow_12 : decode b_A_takeFromRow 12 = .ok (.invokevirtual 44, 3) := by decide +kernel
theorem d_A_takeFromRow_15 : decode b_A_takeFromRow 15 = .ok (.if_icmp .ge 88, 3) := by decide +kernel
theorem d_A_takeFromRow_18 : decode b_A_takeFromRow 18 = .ok (.iload_n 2, 1) := by decide +kernel
theorem d_A_takeFromRow_19 : decode b_A_takeFromRow 19 = .ok (.aload_n 0, 1) := by decide +kernel
theorem d_A_takeFromRow_20 : decode b_A_takeFromRow 20 = .ok (.getfield 10, 3) := by decide +kernel
theorem d_A_takeFromRow_23 : decode b_A_takeFromRow 23 = .ok (.aload_n 0, 1) := by decide +kernel
theorem d_A_takeFromRow_24 : decode b_A_takeFromRow 24 = .ok (.getfield 26, 3) := by decide +kernel
theorem d_A_takeFromRow_27 : decode b_A_takeFromRow 27 = .ok (.invokevirtual 44, 3) := by decide +kernel
theorem d_A_takeFromRow_30 : decode b_A_takeFromRow 30 = .ok (.iload_n 2, 1) := by decide +kernel
theorem d_A_takeFromRow_31 : decode b_A_takeFromRow 31 = .ok (.isub, 1) := by decide +kernel
theorem d_A_takeFromRow_32 : decode b_A_takeFromRow 32 = .ok (.invokevirtual 181, 3) := by decide +kernel
theorem d_A_takeFromRow_35 : decode b_A_takeFromRow 35 = .ok (.iadd, 1) := by decide +kernel
theorem d_A_takeFromRow_36 : decode b_A_takeFromRow 36 = .ok (.istore_n 3, 1) := by decide +kernel
theorem d_A_takeFromRow_37 : decode b_A_takeFromRow 37 = .ok (.aload_n 0, 1) := by decide +kernel
theorem d_A_takeFromRow_38 : decode b_A_takeFromRow 38 = .ok (.getfield 26, 3) := by decide +kernel
theorem d_A_takeFromRow_41 : decode b_A_takeFromRow 41 = .ok (.iload_n 3, 1) := by decide +kernel
theorem d_A_takeFromRow_42 : decode b_A_takeFromRow 42 = .ok (.invokevirtual 82, 3) := by decide +kernel
theorem d_A_takeFromRow_45 : decode b_A_takeFromRow 45 = .ok (.checkcast 55, 3) := by decide +kernel
theorem d_A_takeFromRow_48 : decode b_A_takeFromRow 48 = .ok (.astore 4, 2) := by decide +kernel
theorem d_A_takeFromRow_50 : decode b_A_takeFromRow 50 = .ok (.aload_n 0, 1) := by decide +kernel
theorem d_A_takeFromRow_51 : decode b_A_takeFromRow 51 = .ok (.getfield 26, 3) := by decide +kernel
theorem d_A_takeFromRow_54 : decode b_A_takeFromRow 54 = .ok (.iload_n 3, 1) := by decide +kernel
theorem d_A_takeFromRow_55 : decode b_A_takeFromRow 55 = .ok (.aload_n 0, 1) := by decide +kernel
theorem d_A_takeFromRow_56 : decode b_A_takeFromRow 56 = .ok (.getfield 26, 3) := by decide +kernel
theorem d_A_takeFromRow_59 : decode b_A_takeFromRow 59 = .ok (.iload_n 2, 1) := by decide +kernel
theorem d_A_takeFromRow_60 : decode b_A_takeFromRow 60 = .ok (.invokevirtual 82, 3) := by decide +kernel
theorem d_A_takeFromRow_63 : decode b_A_takeFromRow 63 = .ok (.checkcast 55, 3) := by decide +kernel
theorem d_A_takeFromRow_66 : decode b_A_takeFromRow 66 = .ok (.invokevirtual 184, 3) := by decide +kernel
theorem d_A_takeFromRow_69 : decode b_A_takeFromRow 69 = .ok (.pop, 1) := by decide +kernel
theorem d_A_takeFromRow_70 : decode b_A_takeFromRow 70 = .ok (.aload_n 0, 1) := by decide +kernel
theorem d_A_takeFromRow_71 : decode b_A_takeFromRow 71 = .ok (.getfield 26, 3) := by decide +kernel
theorem d_A_takeFromRow_74 : decode b_A_takeFromRow 74 = .ok (.iload_n 2, 1) := by decide +kernel
theorem d_A_takeFromRow_75 : decode b_A_takeFromRow 75 = .ok (.aload 4, 2) := by decide +kernel
theorem d_A_takeFromRow_77 : decode b_A_takeFromRow 77 = .ok (.invokevirtual 184, 3) := by decide +kernel
theorem d_A_takeFromRow_80 : decode b_A_takeFromRow 80 = .ok (.pop, 1) := by decide +kernel
theorem d_A_takeFromRow_81 : decode b_A_takeFromRow 81 = .ok (.aload 4, 2) := by decide +kernel
theorem d_A_takeFromRow_83 : decode b_A_takeFromRow 83 = .ok (.iconst 0, 1) := by decide +kernel
theorem d_A_takeFromRow_84 : decode b_A_takeFromRow 84 = .ok (.putfield 101, 3) := by decide +kernel
theorem d_A_takeFromRow_87 : decode b_A_takeFromRow 87 = .ok (.aload_n 0, 1) := by decide +kernel
theorem d_A_takeFromRow_88 : decode b_A_takeFromRow 88 = .ok (.getfield 23, 3) := by decide +kernel
theorem d_A_takeFromRow_91 : decode b_A_takeFromRow 91 = .ok (.aload 4, 2) := by decide +kernel
theorem d_A_takeFromRow_93 : decode b_A_takeFromRow 93 = .ok (.invokevirtual 60, 3) := by decide +kernel
theorem d_A_takeFromRow_96 : decode b_A_takeFromRow 96 = .ok (.pop, 1) := by decide +kernel
theorem d_A_takeFromRow_97 : decode b_A_takeFromRow 97 = .ok (.iinc 2 1, 3) := by decide +kernel
theorem d_A_takeFromRow_100 : decode b_A_takeFromRow 100 = .ok (.goto (-98), 3) := by decide +kernel
theorem d_A_takeFromRow_103 : decode b_A_takeFromRow 103 = .ok (.return_, 1) := by decide +kernel
theorem d_D_below_0 : decode b_D_below 0 = .ok (.aload_n 0, 1) := by decide +kernel
theorem d_D_below_1 : decode b_D_below 1 = .ok (.aload_n 0, 1) := by decide +kernel
theorem d_D_below_2 : decode b_D_below 2 = .ok (.getfield 7, 3) := by decide +kernel
theorem d_D_below_5 : decode b_D_below 5 = .ok (.ldc2_w 13, 3) := by decide +kernel
theorem d_D_below_8 : decode b_D_below 8 = .ok (.lmul, 1) := by decide +kernel
theorem d_D_below_9 : decode b_D_below 9 = .ok (.ldc2_w 15, 3) := by decide +kernel
theorem d_D_below_12 : decode b_D_below 12 = .ok (.ladd, 1) := by decide +kernel
theorem d_D_below_13 : decode b_D_below 13 = .ok (.putfield 7, 3) := by decide +kernel
theorem d_D_below_16 : decode b_D_below 16 = .ok (.iload_n 1, 1) := by decide +kernel
theorem d_D_below_17 : decode b_D_below 17 = .ok (.iconst 1, 1) := by decide +kernel
theorem d_D_below_18 : decode b_D_below 18 = .ok (.if_icmp .ge 7, 3) := by decide +kernel
theorem d_D_below_21 : decode b_D_below 21 = .ok (.iconst 0, 1) := by decide +kernel
theorem d_D_below_22 : decode b_D_below 22 = .ok (.goto 14, 3) := by decide +kernel
theorem d_D_below_25 : decode b_D_below 25 = .ok (.aload_n 0, 1) := by decide +kernel
theorem d_D_below_26 : decode b_D_below 26 = .ok (.getfield 7, 3) := by decide +kernel
theorem d_D_below_29 : decode b_D_below 29 = .ok (.bipush 33, 2) := by decide +kernel
theorem d_D_below_31 : decode b_D_below 31 = .ok (.lushr, 1) := by decide +kernel
theorem d_D_below_32 : decode b_D_below 32 = .ok (.iload_n 1, 1) := by decide +kernel
theorem d_D_below_33 : decode b_D_below 33 = .ok (.i2l, 1) := by decide +kernel
theorem d_D_below_34 : decode b_D_below 34 = .ok (.lrem, 1) := by decide +kernel
theorem d_D_below_35 : decode b_D_below 35 = .ok (.l2i, 1) := by decide +kernel
theorem d_D_below_36 : decode b_D_below 36 = .ok (.ireturn, 1) := by decide +kernel
theorem d_A_drawn_0 : decode b_A_drawn 0 = .ok (.iload_n 1, 1) := by decide +kernel
theorem d_A_drawn_1 : decode b_A_drawn 1 = .ok (.aload_n 0, 1) := by decide +kernel
theorem d_A_drawn_2 : decode b_A_drawn 2 = .ok (.getfield 23, 3) := by decide +kernel
theorem d_A_drawn_5 : decode b_A_drawn 5 = .ok (.invokevirtual 44, 3) := by decide +kernel
theorem d_A_drawn_8 : decode b_A_drawn 8 = .ok (.invokestatic 40, 3) := by decide +kernel
theorem d_A_drawn_11 : decode b_A_drawn 11 = .ok (.aload_n 0, 1) := by decide +kernel
theorem d_A_drawn_12 : decode b_A_drawn 12 = .ok (.getfield 23, 3) := by decide +kernel
theorem d_A_drawn_15 : decode b_A_drawn 15 = .ok (.iload_n 1, 1) := by decide +kernel
theorem d_A_drawn_16 : decode b_A_drawn 16 = .ok (.invokevirtual 82, 3) := by decide +kernel
theorem d_A_drawn_19 : decode b_A_drawn 19 = .ok (.checkcast 55, 3) := by decide +kernel
theorem d_A_drawn_22 : decode b_A_drawn 22 = .ok (.getfield 86, 3) := by decide +kernel
theorem d_A_drawn_25 : decode b_A_drawn 25 = .ok (.ireturn, 1) := by decide +kernel
theorem d_A_check_0 : decode b_A_check 0 = .ok (.aload_n 0, 1) := by decide +kernel
theorem d_A_check_1 : decode b_A_check 1 = .ok (.iload_n 1, 1) := by decide +kernel
theorem d_A_check_2 : decode b_A_check 2 = .ok (.invokevirtual 90, 3) := by decide +kernel
theorem d_A_check_5 : decode b_A_check 5 = .ok (.astore 5, 2) := by decide +kernel
theorem d_A_check_7 : decode b_A_check 7 = .ok (.iload_n 2, 1) := by decide +kernel
theorem d_A_check_8 : decode b_A_check 8 = .ok (.bipush 10, 2) := by decide +kernel
theorem d_A_check_10 : decode b_A_check 10 = .ok (.invokestatic 40, 3) := by decide +kernel
theorem d_A_check_13 : decode b_A_check 13 = .ok (.iload_n 3, 1) := by decide +kernel
theorem d_A_check_14 : decode b_A_check 14 = .ok (.bipush 10, 2) := by decide +kernel
theorem d_A_check_16 : decode b_A_check 16 = .ok (.invokestatic 40, 3) := by decide +kernel
theorem d_A_check_19 : decode b_A_check 19 = .ok (.iload 4, 2) := by decide +kernel
theorem d_A_check_21 : decode b_A_check 21 = .ok (.bipush 16, 2) := by decide +kernel
theorem d_A_check_23 : decode b_A_check 23 = .ok (.invokestatic 40, 3) := by decide +kernel
theorem d_A_check_26 : decode b_A_check 26 = .ok (.aload 5, 2) := by decide +kernel
theorem d_A_check_28 : decode b_A_check 28 = .ok (.invokestatic 94, 3) := by decide +kernel
theorem d_A_check_31 : decode b_A_check 31 = .ok (.iload_n 2, 1) := by decide +kernel
theorem d_A_check_32 : decode b_A_check 32 = .ok (.iload_n 3, 1) := by decide +kernel
theorem d_A_check_33 : decode b_A_check 33 = .ok (.if_icmp .ne 5, 3) := by decide +kernel
theorem d_A_check_36 : decode b_A_check 36 = .ok (.iconst 2, 1) := by decide +kernel
theorem d_A_check_37 : decode b_A_check 37 = .ok (.ireturn, 1) := by decide +kernel
theorem d_A_check_38 : decode b_A_check 38 = .ok (.aload 5, 2) := by decide +kernel
theorem d_A_check_40 : decode b_A_check 40 = .ok (.getfield 98, 3) := by decide +kernel
theorem d_A_check_43 : decode b_A_check 43 = .ok (.iload 4, 2) := by decide +kernel
theorem d_A_check_45 : decode b_A_check 45 = .ok (.if_icmp .ne 11, 3) := by decide +kernel
theorem d_A_check_48 : decode b_A_check 48 = .ok (.aload 5, 2) := by decide +kernel
theorem d_A_check_50 : decode b_A_check 50 = .ok (.iconst 1, 1) := by decide +kernel
theorem d_A_check_51 : decode b_A_check 51 = .ok (.putfield 101, 3) := by decide +kernel
theorem d_A_check_54 : decode b_A_check 54 = .ok (.iconst 0, 1) := by decide +kernel
theorem d_A_check_55 : decode b_A_check 55 = .ok (.ireturn, 1) := by decide +kernel
theorem d_A_check_56 : decode b_A_check 56 = .ok (.aload 5, 2) := by decide +kernel
theorem d_A_check_58 : decode b_A_check 58 = .ok (.iconst 2, 1) := by decide +kernel
theorem d_A_check_59 : decode b_A_check 59 = .ok (.putfield 101, 3) := by decide +kernel
theorem d_A_check_62 : decode b_A_check 62 = .ok (.aload 5, 2) := by decide +kernel
theorem d_A_check_64 : decode b_A_check 64 = .ok (.iload 4, 2) := by decide +kernel
theorem d_A_check_66 : decode b_A_check 66 = .ok (.putfield 98, 3) := by decide +kernel
theorem d_A_check_69 : decode b_A_check 69 = .ok (.iconst 1, 1) := by decide +kernel
theorem d_A_check_70 : decode b_A_check 70 = .ok (.ireturn, 1) := by decide +kernel
theorem d_A_existing_0 : decode b_A_existing 0 = .ok (.iload_n 1, 1) := by decide +kernel
theorem d_A_existing_1 : decode b_A_existing 1 = .ok (.aload_n 0, 1) := by decide +kernel
theorem d_A_existing_2 : decode b_A_existing 2 = .ok (.getfield 19, 3) := by decide +kernel
theorem d_A_existing_5 : decode b_A_existing 5 = .ok (.invokevirtual 44, 3) := by decide +kernel
theorem d_A_existing_8 : decode b_A_existing 8 = .ok (.invokestatic 40, 3) := by decide +kernel
theorem d_A_existing_11 : decode b_A_existing 11 = .ok (.aload_n 0, 1) := by decide +kernel
theorem d_A_existing_12 : decode b_A_existing 12 = .ok (.getfield 19, 3) := by decide +kernel
theorem d_A_existing_15 : decode b_A_existing 15 = .ok (.iload_n 1, 1) := by decide +kernel
theorem d_A_existing_16 : decode b_A_existing 16 = .ok (.invokevirtual 82, 3) := by decide +kernel
theorem d_A_existing_19 : decode b_A_existing 19 = .ok (.checkcast 55, 3) := by decide +kernel
theorem d_A_existing_22 : decode b_A_existing 22 = .ok (.areturn, 1) := by decide +kernel
theorem d_A_needListed_0 : decode b_A_needListed 0 = .ok (.aload_n 0, 1) := by decide +kernel
theorem d_A_needListed_1 : decode b_A_needListed 1 = .ok (.getfield 101, 3) := by decide +kernel
theorem d_A_needListed_4 : decode b_A_needListed 4 = .ok (.iconst (-1), 1) := by decide +kernel
theorem d_A_needListed_5 : decode b_A_needListed 5 = .ok (.if_icmp .ne 13, 3) := by decide +kernel
theorem d_A_needListed_8 : decode b_A_needListed 8 = .ok (.new 48, 3) := by decide +kernel
theorem d_A_needListed_11 : decode b_A_needListed 11 = .ok (.dup, 1) := by decide +kernel
theorem d_A_needListed_12 : decode b_A_needListed 12 = .ok (.ldc 195, 2) := by decide +kernel
theorem d_A_needListed_14 : decode b_A_needListed 14 = .ok (.invokespecial 52, 3) := by decide +kernel
theorem d_A_needListed_17 : decode b_A_needListed 17 = .ok (.athrow, 1) := by decide +kernel
theorem d_A_needListed_18 : decode b_A_needListed 18 = .ok (.return_, 1) := by decide +kernel
theorem d_A_gone_0 : decode b_A_gone 0 = .ok (.aload_n 0, 1) := by decide +kernel
theorem d_A_gone_1 : decode b_A_gone 1 = .ok (.iload_n 1, 1) := by decide +kernel
theorem d_A_gone_2 : decode b_A_gone 2 = .ok (.invokevirtual 90, 3) := by decide +kernel
theorem d_A_gone_5 : decode b_A_gone 5 = .ok (.astore_n 2, 1) := by decide +kernel
theorem d_A_gone_6 : decode b_A_gone 6 = .ok (.aload_n 2, 1) := by decide +kernel
theorem d_A_gone_7 : decode b_A_gone 7 = .ok (.invokestatic 94, 3) := by decide +kernel
theorem d_A_gone_10 : decode b_A_gone 10 = .ok (.aload_n 2, 1) := by decide +kernel
theorem d_A_gone_11 : decode b_A_gone 11 = .ok (.getfield 101, 3) := by decide +kernel
theorem d_A_gone_14 : decode b_A_gone 14 = .ok (.iconst 3, 1) := by decide +kernel
theorem d_A_gone_15 : decode b_A_gone 15 = .ok (.if_icmp .eq 7, 3) := by decide +kernel
theorem d_A_gone_18 : decode b_A_gone 18 = .ok (.iconst 1, 1) := by decide +kernel
theorem d_A_gone_19 : decode b_A_gone 19 = .ok (.goto 4, 3) := by decide +kernel
theorem d_A_gone_22 : decode b_A_gone 22 = .ok (.iconst 0, 1) := by decide +kernel
theorem d_A_gone_23 : decode b_A_gone 23 = .ok (.istore_n 3, 1) := by decide +kernel
theorem d_A_gone_24 : decode b_A_gone 24 = .ok (.aload_n 2, 1) := by decide +kernel
theorem d_A_gone_25 : decode b_A_gone 25 = .ok (.iconst 3, 1) := by decide +kernel
theorem d_A_gone_26 : decode b_A_gone 26 = .ok (.putfield 101, 3) := by decide +kernel
theorem d_A_gone_29 : decode b_A_gone 29 = .ok (.iload_n 3, 1) := by decide +kernel
theorem d_A_gone_30 : decode b_A_gone 30 = .ok (.ireturn, 1) := by decide +kernel
theorem d_A_share_0 : decode b_A_share 0 = .ok (.iload_n 1, 1) := by decide +kernel
theorem d_A_share_1 : decode b_A_share 1 = .ok (.bipush 6, 2) := by decide +kernel
theorem d_A_share_3 : decode b_A_share 3 = .ok (.invokestatic 40, 3) := by decide +kernel
theorem d_A_share_6 : decode b_A_share 6 = .ok (.iload_n 2, 1) := by decide +kernel
theorem d_A_share_7 : decode b_A_share 7 = .ok (.iconst 2, 1) := by decide +kernel
theorem d_A_share_8 : decode b_A_share 8 = .ok (.invokestatic 40, 3) := by decide +kernel
theorem d_A_share_11 : decode b_A_share 11 = .ok (.aload_n 0, 1) := by decide +kernel
theorem d_A_share_12 : decode b_A_share 12 = .ok (.iload_n 1, 1) := by decide +kernel
theorem d_A_share_13 : decode b_A_share 13 = .ok (.invokevirtual 103, 3) := by decide +kernel
theorem d_A_share_16 : decode b_A_share 16 = .ok (.istore_n 3, 1) := by decide +kernel
theorem d_A_share_17 : decode b_A_share 17 = .ok (.aload_n 0, 1) := by decide +kernel
theorem d_A_share_18 : decode b_A_share 18 = .ok (.iload_n 1, 1) := by decide +kernel
theorem d_A_share_19 : decode b_A_share 19 = .ok (.iconst 1, 1) := by decide +kernel
theorem d_A_share_20 : decode b_A_share 20 = .ok (.invokevirtual 107, 3) := by decide +kernel
theorem d_A_share_23 : decode b_A_share 23 = .ok (.istore 4, 2) := by decide +kernel
theorem d_A_share_25 : decode b_A_share 25 = .ok (.iload_n 3, 1) := by decide +kernel
theorem d_A_share_26 : decode b_A_share 26 = .ok (.ifCond .ne 5, 3) := by decide +kernel
theorem d_A_share_29 : decode b_A_share 29 = .ok (.iload_n 2, 1) := by decide +kernel
theorem d_A_share_30 : decode b_A_share 30 = .ok (.ireturn, 1) := by decide +kernel
theorem d_A_share_31 : decode b_A_share 31 = .ok (.iload 4, 2) := by decide +kernel
theorem d_A_share_33 : decode b_A_share 33 = .ok (.iload_n 3, 1) := by decide +kernel
theorem d_A_share_34 : decode b_A_share 34 = .ok (.invokestatic 111, 3) := by decide +kernel
theorem d_A_share_37 : decode b_A_share 37 = .ok (.istore 5, 2) := by decide +kernel
theorem d_A_share_39 : decode b_A_share 39 = .ok (.iload_n 2, 1) := by decide +kernel
theorem d_A_share_40 : decode b_A_share 40 = .ok (.ifCond .ne 11, 3) := by decide +kernel
theorem d_A_share_43 : decode b_A_share 43 = .ok (.iload 4, 2) := by decide +kernel
theorem d_A_share_45 : decode b_A_share 45 = .ok (.iload 5, 2) := by decide +kernel
theorem d_A_share_47 : decode b_A_share 47 = .ok (.idiv, 1) := by decide +kernel
theorem d_A_share_48 : decode b_A_share 48 = .ok (.goto 7, 3) := by decide +kernel
theorem d_A_share_51 : decode b_A_share 51 = .ok (.iload_n 3, 1) := by decide +kernel
theorem d_A_share_52 : decode b_A_share 52 = .ok (.iload 5, 2) := by decide +kernel
theorem d_A_share_54 : decode b_A_share 54 = .ok (.idiv, 1) := by decide +kernel
theorem d_A_share_55 : decode b_A_share 55 = .ok (.ireturn, 1) := by decide +kernel
theorem d_A_countChecked_0 : decode b_A_countChecked 0 = .ok (.aload_n 0, 1) := by decide +kernel
theorem d_A_countChecked_1 : decode b_A_countChecked 1 = .ok (.iload_n 1, 1) := by decide +kernel
theorem d_A_countChecked_2 : decode b_A_countChecked 2 = .ok (.iconst 1, 1) := by decide +kernel
theorem d_A_countChecked_3 : decode b_A_countChecked 3 = .ok (.invokevirtual 107, 3) := by decide +kernel
theorem d_A_countChecked_6 : decode b_A_countChecked 6 = .ok (.aload_n 0, 1) := by decide +kernel
theorem d_A_countChecked_7 : decode b_A_countChecked 7 = .ok (.iload_n 1, 1) := by decide +kernel
theorem d_A_countChecked_8 : decode b_A_countChecked 8 = .ok (.invokevirtual 114, 3) := by decide +kernel
theorem d_A_countChecked_11 : decode b_A_countChecked 11 = .ok (.iadd, 1) := by decide +kernel
theorem d_A_countChecked_12 : decode b_A_countChecked 12 = .ok (.ireturn, 1) := by decide +kernel
theorem d_A_countListed_0 : decode b_A_countListed 0 = .ok (.iconst 0, 1) := by decide +kernel
theorem d_A_countListed_1 : decode b_A_countListed 1 = .ok (.istore_n 3, 1) := by decide +kernel
theorem d_A_countListed_2 : decode b_A_countListed 2 = .ok (.iconst 0, 1) := by decide +kernel
theorem d_A_countListed_3 : decode b_A_countListed 3 = .ok (.istore 4, 2) := by decide +kernel
theorem d_A_countListed_5 : decode b_A_countListed 5 = .ok (.iload 4, 2) := by decide +kernel
theorem d_A_countListed_7 : decode b_A_countListed 7 = .ok (.aload_n 0, 1) := by decide +kernel
theorem d_A_countListed_8 : decode b_A_countListed 8 = .ok (.getfield 23, 3) := by decide +kernel
theorem d_A_countListed_11 : decode b_A_countListed 11 = .ok (.invokevirtual 44, 3) := by decide +kernel
theorem d_A_countListed_14 : decode b_A_countListed 14 = .ok (.if_icmp .ge 44, 3) := by decide +kernel
theorem d_A_countListed_17 : decode b_A_countListed 17 = .ok (.aload_n 0, 1) := by decide +kernel
theorem d_A_countListed_18 : decode b_A_countListed 18 = .ok (.getfield 23, 3) := by decide +kernel
theorem d_A_countListed_21 : decode b_A_countListed 21 = .ok (.iload 4, 2) := by decide +kernel
theorem d_A_countListed_23 : decode b_A_countListed 23 = .ok (.invokevirtual 82, 3) := by decide +kernel
theorem d_A_countListed_26 : decode b_A_countListed 26 = .ok (.checkcast 55, 3) := by decide +kernel
theorem d_A_countListed_29 : decode b_A_countListed 29 = .ok (.astore 5, 2) := by decide +kernel
theorem d_A_countListed_31 : decode b_A_countListed 31 = .ok (.aload 5, 2) := by decide +kernel
theorem d_A_countListed_33 : decode b_A_countListed 33 = .ok (.getfield 178, 3) := by decide +kernel
theorem d_A_countListed_36 : decode b_A_countListed 36 = .ok (.iload_n 1, 1) := by decide +kernel
theorem d_A_countListed_37 : decode b_A_countListed 37 = .ok (.if_icmp .ne 15, 3) := by decide +kernel
theorem d_A_countListed_40 : decode b_A_countListed 40 = .ok (.aload 5, 2) := by decide +kernel
theorem d_A_countListed_42 : decode b_A_countListed 42 = .ok (.getfield 101, 3) := by decide +kernel
theorem d_A_countListed_45 : decode b_A_countListed 45 = .ok (.iload_n 2, 1) := by decide +kernel
theorem d_A_countListed_46 : decode b_A_countListed 46 = .ok (.if_icmp .ne 6, 3) := by decide +kernel
theorem d_A_countListed_49 : decode b_A_countListed 49 = .ok (.iinc 3 1, 3) := by decide +kernel
theorem d_A_countListed_52 : decode b_A_countListed 52 = .ok (.iinc 4 1, 3) := by decide +kernel
theorem d_A_countListed_55 : decode b_A_countListed 55 = .ok (.goto (-50), 3) := by decide +kernel
theorem d_A_countListed_58 : decode b_A_countListed 58 = .ok (.iload_n 3, 1) := by decide +kernel
theorem d_A_countListed_59 : decode b_A_countListed 59 = .ok (.ireturn, 1) := by decide +kernel
theorem d_A_countMissed_0 : decode b_A_countMissed 0 = .ok (.aload_n 0, 1) := by decide +kernel
theorem d_A_countMissed_1 : decode b_A_countMissed 1 = .ok (.iload_n 1, 1) := by decide +kernel
theorem d_A_countMissed_2 : decode b_A_countMissed 2 = .ok (.iconst 2, 1) := by decide +kernel
theorem d_A_countMissed_3 : decode b_A_countMissed 3 = .ok (.invokevirtual 107, 3) := by decide +kernel
theorem d_A_countMissed_6 : decode b_A_countMissed 6 = .ok (.aload_n 0, 1) := by decide +kernel
theorem d_A_countMissed_7 : decode b_A_countMissed 7 = .ok (.iload_n 1, 1) := by decide +kernel
theorem d_A_countMissed_8 : decode b_A_countMissed 8 = .ok (.iconst 3, 1) := by decide +kernel
theorem d_A_countMissed_9 : decode b_A_countMissed 9 = .ok (.invokevirtual 107, 3) := by decide +kernel
theorem d_A_countMissed_12 : decode b_A_countMissed 12 = .ok (.iadd, 1) := by decide +kernel
theorem d_A_countMissed_13 : decode b_A_countMissed 13 = .ok (.ireturn, 1) := by decide +kernel
theorem d_A_commonDivisor_0 : decode b_A_commonDivisor 0 = .ok (.iload_n 1, 1) := by decide +kernel
theorem d_A_commonDivisor_1 : decode b_A_commonDivisor 1 = .ok (.istore_n 2, 1) := by decide +kernel
theorem d_A_commonDivisor_2 : decode b_A_commonDivisor 2 = .ok (.iload_n 2, 1) := by decide +kernel
theorem d_A_commonDivisor_3 : decode b_A_commonDivisor 3 = .ok (.iconst 1, 1) := by decide +kernel
theorem d_A_commonDivisor_4 : decode b_A_commonDivisor 4 = .ok (.if_icmp .le 23, 3) := by decide +kernel
theorem d_A_commonDivisor_7 : decode b_A_commonDivisor 7 = .ok (.iload_n 0, 1) := by decide +kernel
theorem d_A_commonDivisor_8 : decode b_A_commonDivisor 8 = .ok (.iload_n 2, 1) := by decide +kernel
theorem d_A_commonDivisor_9 : decode b_A_commonDivisor 9 = .ok (.irem, 1) := by decide +kernel
theorem d_A_commonDivisor_10 : decode b_A_commonDivisor 10 = .ok (.ifCond .ne 11, 3) := by decide +kernel
theorem d_A_commonDivisor_13 : decode b_A_commonDivisor 13 = .ok (.iload_n 1, 1) := by decide +kernel
theorem d_A_commonDivisor_14 : decode b_A_commonDivisor 14 = .ok (.iload_n 2, 1) := by decide +kernel
theorem d_A_commonDivisor_15 : decode b_A_commonDivisor 15 = .ok (.irem, 1) := by decide +kernel
theorem d_A_commonDivisor_16 : decode b_A_commonDivisor 16 = .ok (.ifCond .ne 5, 3) := by decide +kernel
theorem d_A_commonDivisor_19 : decode b_A_commonDivisor 19 = .ok (.iload_n 2, 1) := by decide +kernel
theorem d_A_commonDivisor_20 : decode b_A_commonDivisor 20 = .ok (.ireturn, 1) := by decide +kernel
theorem d_A_commonDivisor_21 : decode b_A_commonDivisor 21 = .ok (.iinc 2 (-1), 3) := by decide +kernel
theorem d_A_commonDivisor_24 : decode b_A_commonDivisor 24 = .ok (.goto (-22), 3) := by decide +kernel
theorem d_A_commonDivisor_27 : decode b_A_commonDivisor 27 = .ok (.iconst 1, 1) := by decide +kernel
theorem d_A_commonDivisor_28 : decode b_A_commonDivisor 28 = .ok (.ireturn, 1) := by decide +kernel
theorem d_A_next_0 : decode b_A_next 0 = .ok (.iload_n 1, 1) := by decide +kernel
theorem d_A_next_1 : decode b_A_next 1 = .ok (.bipush 6, 2) := by decide +kernel
theorem d_A_next_3 : decode b_A_next 3 = .ok (.invokestatic 40, 3) := by decide +kernel
theorem d_A_next_6 : decode b_A_next 6 = .ok (.aload_n 0, 1) := by decide +kernel
theorem d_A_next_7 : decode b_A_next 7 = .ok (.iload_n 1, 1) := by decide +kernel
theorem d_A_next_8 : decode b_A_next 8 = .ok (.invokevirtual 103, 3) := by decide +kernel
theorem d_A_next_11 : decode b_A_next 11 = .ok (.istore_n 2, 1) := by decide +kernel
theorem d_A_next_12 : decode b_A_next 12 = .ok (.iload_n 2, 1) := by decide +kernel
theorem d_A_next_13 : decode b_A_next 13 = .ok (.ifCond .ne 6, 3) := by decide +kernel
theorem d_A_next_16 : decode b_A_next 16 = .ok (.bipush 100, 2) := by decide +kernel
theorem d_A_next_18 : decode b_A_next 18 = .ok (.ireturn, 1) := by decide +kernel
theorem d_A_next_19 : decode b_A_next 19 = .ok (.aload_n 0, 1) := by decide +kernel
theorem d_A_next_20 : decode b_A_next 20 = .ok (.iload_n 1, 1) := by decide +kernel
theorem d_A_next_21 : decode b_A_next 21 = .ok (.invokevirtual 114, 3) := by decide +kernel
theorem d_A_next_24 : decode b_A_next 24 = .ok (.istore_n 3, 1) := by decide +kernel
theorem d_A_next_25 : decode b_A_next 25 = .ok (.bipush 50, 2) := by decide +kernel
theorem d_A_next_27 : decode b_A_next 27 = .ok (.sipush 950, 3) := by decide +kernel
theorem d_A_next_30 : decode b_A_next 30 = .ok (.iload_n 3, 1) := by decide +kernel
theorem d_A_next_31 : decode b_A_next 31 = .ok (.imul, 1) := by decide +kernel
theorem d_A_next_32 : decode b_A_next 32 = .ok (.iload_n 2, 1) := by decide +kernel
theorem d_A_next_33 : decode b_A_next 33 = .ok (.iadd, 1) := by decide +kernel
theorem d_A_next_34 : decode b_A_next 34 = .ok (.iconst 1, 1) := by decide +kernel
theorem d_A_next_35 : decode b_A_next 35 = .ok (.isub, 1) := by decide +kernel
theorem d_A_next_36 : decode b_A_next 36 = .ok (.iload_n 2, 1) := by decide +kernel
theorem d_A_next_37 : decode b_A_next 37 = .ok (.idiv, 1) := by decide +kernel
theorem d_A_next_38 : decode b_A_next 38 = .ok (.iadd, 1) := by decide +kernel
theorem d_A_next_39 : decode b_A_next 39 = .ok (.ireturn, 1) := by decide +kernel
theorem d_A_digit_0 : decode b_A_digit 0 = .ok (.iload_n 1, 1) := by decide +kernel
theorem d_A_digit_1 : decode b_A_digit 1 = .ok (.iconst 3, 1) := by decide +kernel
theorem d_A_digit_2 : decode b_A_digit 2 = .ok (.invokestatic 40, 3) := by decide +kernel
theorem d_A_digit_5 : decode b_A_digit 5 = .ok (.lload_n 2, 1) := by decide +kernel
theorem d_A_digit_6 : decode b_A_digit 6 = .ok (.invokestatic 119, 3) := by decide +kernel
theorem d_A_digit_9 : decode b_A_digit 9 = .ok (.iload_n 1, 1) := by decide +kernel
theorem d_A_digit_10 : decode b_A_digit 10 = .ok (.lload_n 2, 1) := by decide +kernel
theorem d_A_digit_11 : decode b_A_digit 11 = .ok (.invokestatic 123, 3) := by decide +kernel
theorem d_A_digit_14 : decode b_A_digit 14 = .ok (.ireturn, 1) := by decide +kernel
theorem d_A_needNumber_0 : decode b_A_needNumber 0 = .ok (.lload_n 0, 1) := by decide +kernel
theorem d_A_needNumber_1 : decode b_A_needNumber 1 = .ok (.lconst 0, 1) := by decide +kernel
theorem d_A_needNumber_2 : decode b_A_needNumber 2 = .ok (.lcmp, 1) := by decide +kernel
theorem d_A_needNumber_3 : decode b_A_needNumber 3 = .ok (.ifCond .lt 11, 3) := by decide +kernel
theorem d_A_needNumber_6 : decode b_A_needNumber 6 = .ok (.lload_n 0, 1) := by decide +kernel
theorem d_A_needNumber_7 : decode b_A_needNumber 7 = .ok (.ldc2_w 200, 3) := by decide +kernel
theorem d_A_needNumber_10 : decode b_A_needNumber 10 = .ok (.lcmp, 1) := by decide +kernel
theorem d_A_needNumber_11 : decode b_A_needNumber 11 = .ok (.ifCond .le 13, 3) := by decide +kernel
theorem d_A_needNumber_14 : decode b_A_needNumber 14 = .ok (.new 64, 3) := by decide +kernel
theorem d_A_needNumber_17 : decode b_A_needNumber 17 = .ok (.dup, 1) := by decide +kernel
theorem d_A_needNumber_18 : decode b_A_needNumber 18 = .ok (.ldc 202, 2) := by decide +kernel
theorem d_A_needNumber_20 : decode b_A_needNumber 20 = .ok (.invokespecial 68, 3) := by decide +kernel
theorem d_A_needNumber_23 : decode b_A_needNumber 23 = .ok (.athrow, 1) := by decide +kernel
theorem d_A_needNumber_24 : decode b_A_needNumber 24 = .ok (.return_, 1) := by decide +kernel
theorem d_C_of_0 : decode b_C_of 0 = .ok (.iload_n 0, 1) := by decide +kernel
theorem d_C_of_1 : decode b_C_of 1 = .ok (.lload_n 1, 1) := by decide +kernel
theorem d_C_of_2 : decode b_C_of 2 = .ok (.invokestatic 7, 3) := by decide +kernel
theorem d_C_of_5 : decode b_C_of 5 = .ok (.istore_n 3, 1) := by decide +kernel
theorem d_C_of_6 : decode b_C_of 6 = .ok (.iload_n 0, 1) := by decide +kernel
theorem d_C_of_7 : decode b_C_of 7 = .ok (.ifCond .eq 8, 3) := by decide +kernel
theorem d_C_of_10 : decode b_C_of 10 = .ok (.iload_n 0, 1) := by decide +kernel
theorem d_C_of_11 : decode b_C_of 11 = .ok (.iconst 1, 1) := by decide +kernel
theorem d_C_of_12 : decode b_C_of 12 = .ok (.if_icmp .ne 16, 3) := by decide +kernel
theorem d_C_of_15 : decode b_C_of 15 = .ok (.bipush 10, 2) := by decide +kernel
theorem d_C_of_17 : decode b_C_of 17 = .ok (.iload_n 3, 1) := by decide +kernel
theorem d_C_of_18 : decode b_C_of 18 = .ok (.bipush 10, 2) := by decide +kernel
theorem d_C_of_20 : decode b_C_of 20 = .ok (.irem, 1) := by decide +kernel
theorem d_C_of_21 : decode b_C_of 21 = .ok (.isub, 1) := by decide +kernel
theorem d_C_of_22 : decode b_C_of 22 = .ok (.bipush 10, 2) := by decide +kernel
theorem d_C_of_24 : decode b_C_of 24 = .ok (.irem, 1) := by decide +kernel
theorem d_C_of_25 : decode b_C_of 25 = .ok (.goto 13, 3) := by decide +kernel
theorem d_C_of_28 : decode b_C_of 28 = .ok (.bipush 11, 2) := by decide +kernel
theorem d_C_of_30 : decode b_C_of 30 = .ok (.iload_n 3, 1) := by decide +kernel
theorem d_C_of_31 : decode b_C_of 31 = .ok (.bipush 11, 2) := by decide +kernel
theorem d_C_of_33 : decode b_C_of 33 = .ok (.irem, 1) := by decide +kernel
theorem d_C_of_34 : decode b_C_of 34 = .ok (.isub, 1) := by decide +kernel
theorem d_C_of_35 : decode b_C_of 35 = .ok (.bipush 11, 2) := by decide +kernel
theorem d_C_of_37 : decode b_C_of 37 = .ok (.irem, 1) := by decide +kernel
theorem d_C_of_38 : decode b_C_of 38 = .ok (.ireturn, 1) := by decide +kernel
theorem d_C_weighedSum_0 : decode b_C_weighedSum 0 = .ok (.iconst 0, 1) := by decide +kernel
theorem d_C_weighedSum_1 : decode b_C_weighedSum 1 = .ok (.istore_n 3, 1) := by decide +kernel
theorem d_C_weighedSum_2 : decode b_C_weighedSum 2 = .ok (.lload_n 1, 1) := by decide +kernel
theorem d_C_weighedSum_3 : decode b_C_weighedSum 3 = .ok (.lstore 4, 2) := by decide +kernel
theorem d_C_weighedSum_5 : decode b_C_weighedSum 5 = .ok (.iconst 0, 1) := by decide +kernel
theorem d_C_weighedSum_6 : decode b_C_weighedSum 6 = .ok (.istore 6, 2) := by decide +kernel
theorem d_C_weighedSum_8 : decode b_C_weighedSum 8 = .ok (.iload 6, 2) := by decide +kernel
theorem d_C_weighedSum_10 : decode b_C_weighedSum 10 = .ok (.bipush 18, 2) := by decide +kernel
theorem d_C_weighedSum_12 : decode b_C_weighedSum 12 = .ok (.if_icmp .ge 33, 3) := by decide +kernel
theorem d_C_weighedSum_15 : decode b_C_weighedSum 15 = .ok (.iload_n 3, 1) := by decide +kernel
theorem d_C_weighedSum_16 : decode b_C_weighedSum 16 = .ok (.iload_n 0, 1) := by decide +kernel
theorem d_C_weighedSum_17 : decode b_C_weighedSum 17 = .ok (.iload 6, 2) := by decide +kernel
theorem d_C_weighedSum_19 : decode b_C_weighedSum 19 = .ok (.lload 4, 2) := by decide +kernel
theorem d_C_weighedSum_21 : decode b_C_weighedSum 21 = .ok (.ldc2_w 13, 3) := by decide +kernel
theorem d_C_weighedSum_24 : decode b_C_weighedSum 24 = .ok (.lrem, 1) := by decide +kernel
theorem d_C_weighedSum_25 : decode b_C_weighedSum 25 = .ok (.l2i, 1) := by decide +kernel
theorem d_C_weighedSum_26 : decode b_C_weighedSum 26 = .ok (.invokestatic 18, 3) := by decide +kernel
theorem d_C_weighedSum_29 : decode b_C_weighedSum 29 = .ok (.iadd, 1) := by decide +kernel
theorem d_C_weighedSum_30 : decode b_C_weighedSum 30 = .ok (.istore_n 3, 1) := by decide +kernel
theorem d_C_weighedSum_31 : decode b_C_weighedSum 31 = .ok (.lload 4, 2) := by decide +kernel
theorem d_C_weighedSum_33 : decode b_C_weighedSum 33 = .ok (.ldc2_w 13, 3) := by decide +kernel
theorem d_C_weighedSum_36 : decode b_C_weighedSum 36 = .ok (.ldiv, 1) := by decide +kernel
theorem d_C_weighedSum_37 : decode b_C_weighedSum 37 = .ok (.lstore 4, 2) := by decide +kernel
theorem d_C_weighedSum_39 : decode b_C_weighedSum 39 = .ok (.iinc 6 1, 3) := by decide +kernel
theorem d_C_weighedSum_42 : decode b_C_weighedSum 42 = .ok (.goto (-34), 3) := by decide +kernel
theorem d_C_weighedSum_45 : decode b_C_weighedSum 45 = .ok (.iload_n 3, 1) := by decide +kernel
theorem d_C_weighedSum_46 : decode b_C_weighedSum 46 = .ok (.ireturn, 1) := by decide +kernel
theorem d_C_weighed_0 : decode b_C_weighed 0 = .ok (.iload_n 1, 1) := by decide +kernel
theorem d_C_weighed_1 : decode b_C_weighed 1 = .ok (.iconst 2, 1) := by decide +kernel
theorem d_C_weighed_2 : decode b_C_weighed 2 = .ok (.irem, 1) := by decide +kernel
theorem d_C_weighed_3 : decode b_C_weighed 3 = .ok (.ifCond .ne 7, 3) := by decide +kernel
theorem d_C_weighed_6 : decode b_C_weighed 6 = .ok (.iconst 1, 1) := by decide +kernel
theorem d_C_weighed_7 : decode b_C_weighed 7 = .ok (.goto 4, 3) := by decide +kernel
theorem d_C_weighed_10 : decode b_C_weighed 10 = .ok (.iconst 0, 1) := by decide +kernel
theorem d_C_weighed_11 : decode b_C_weighed 11 = .ok (.istore_n 3, 1) := by decide +kernel
theorem d_C_weighed_12 : decode b_C_weighed 12 = .ok (.iload_n 0, 1) := by decide +kernel
theorem d_C_weighed_13 : decode b_C_weighed 13 = .ok (.ifCond .ne 16, 3) := by decide +kernel
theorem d_C_weighed_16 : decode b_C_weighed 16 = .ok (.iload_n 3, 1) := by decide +kernel
theorem d_C_weighed_17 : decode b_C_weighed 17 = .ok (.ifCond .eq 10, 3) := by decide +kernel
theorem d_C_weighed_20 : decode b_C_weighed 20 = .ok (.iload_n 2, 1) := by decide +kernel
theorem d_C_weighed_21 : decode b_C_weighed 21 = .ok (.invokestatic 22, 3) := by decide +kernel
theorem d_C_weighed_24 : decode b_C_weighed 24 = .ok (.goto 4, 3) := by decide +kernel
theorem d_C_weighed_27 : decode b_C_weighed 27 = .ok (.iload_n 2, 1) := by decide +kernel
theorem d_C_weighed_28 : decode b_C_weighed 28 = .ok (.ireturn, 1) := by decide +kernel
theorem d_C_weighed_29 : decode b_C_weighed 29 = .ok (.iload_n 0, 1) := by decide +kernel
theorem d_C_weighed_30 : decode b_C_weighed 30 = .ok (.iconst 1, 1) := by decide +kernel
theorem d_C_weighed_31 : decode b_C_weighed 31 = .ok (.if_icmp .ne 15, 3) := by decide +kernel
theorem d_C_weighed_34 : decode b_C_weighed 34 = .ok (.iload_n 3, 1) := by decide +kernel
theorem d_C_weighed_35 : decode b_C_weighed 35 = .ok (.ifCond .eq 9, 3) := by decide +kernel
theorem d_C_weighed_38 : decode b_C_weighed 38 = .ok (.iconst 3, 1) := by decide +kernel
theorem d_C_weighed_39 : decode b_C_weighed 39 = .ok (.iload_n 2, 1) := by decide +kernel
theorem d_C_weighed_40 : decode b_C_weighed 40 = .ok (.imul, 1) := by decide +kernel
theorem d_C_weighed_41 : decode b_C_weighed 41 = .ok (.goto 4, 3) := by decide +kernel
theorem d_C_weighed_44 : decode b_C_weighed 44 = .ok (.iload_n 2, 1) := by decide +kernel
theorem d_C_weighed_45 : decode b_C_weighed 45 = .ok (.ireturn, 1) := by decide +kernel
theorem d_C_weighed_46 : decode b_C_weighed 46 = .ok (.iload_n 2, 1) := by decide +kernel
theorem d_C_weighed_47 : decode b_C_weighed 47 = .ok (.iload_n 1, 1) := by decide +kernel
theorem d_C_weighed_48 : decode b_C_weighed 48 = .ok (.bipush 6, 2) := by decide +kernel
theorem d_C_weighed_50 : decode b_C_weighed 50 = .ok (.irem, 1) := by decide +kernel
theorem d_C_weighed_51 : decode b_C_weighed 51 = .ok (.iconst 2, 1) := by decide +kernel
theorem d_C_weighed_52 : decode b_C_weighed 52 = .ok (.iadd, 1) := by decide +kernel
theorem d_C_weighed_53 : decode b_C_weighed 53 = .ok (.imul, 1) := by decide +kernel
theorem d_C_weighed_54 : decode b_C_weighed 54 = .ok (.ireturn, 1) := by decide +kernel
theorem d_C_doubled_0 : decode b_C_doubled 0 = .ok (.iconst 2, 1) := by decide +kernel
theorem d_C_doubled_1 : decode b_C_doubled 1 = .ok (.iload_n 0, 1) := by decide +kernel
theorem d_C_doubled_2 : decode b_C_doubled 2 = .ok (.imul, 1) := by decide +kernel
theorem d_C_doubled_3 : decode b_C_doubled 3 = .ok (.istore_n 1, 1) := by decide +kernel
theorem d_C_doubled_4 : decode b_C_doubled 4 = .ok (.iload_n 1, 1) := by decide +kernel
theorem d_C_doubled_5 : decode b_C_doubled 5 = .ok (.bipush 9, 2) := by decide +kernel
theorem d_C_doubled_7 : decode b_C_doubled 7 = .ok (.if_icmp .le 10, 3) := by decide +kernel
theorem d_C_doubled_10 : decode b_C_doubled 10 = .ok (.iload_n 1, 1) := by decide +kernel
theorem d_C_doubled_11 : decode b_C_doubled 11 = .ok (.bipush 9, 2) := by decide +kernel
theorem d_C_doubled_13 : decode b_C_doubled 13 = .ok (.isub, 1) := by decide +kernel
theorem d_C_doubled_14 : decode b_C_doubled 14 = .ok (.goto 4, 3) := by decide +kernel
theorem d_C_doubled_17 : decode b_C_doubled 17 = .ok (.iload_n 1, 1) := by decide +kernel
theorem d_C_doubled_18 : decode b_C_doubled 18 = .ok (.ireturn, 1) := by decide +kernel
theorem d_A_good_0 : decode b_A_good 0 = .ok (.iload_n 1, 1) := by decide +kernel
theorem d_A_good_1 : decode b_A_good 1 = .ok (.iconst 3, 1) := by decide +kernel
theorem d_A_good_2 : decode b_A_good 2 = .ok (.invokestatic 40, 3) := by decide +kernel
theorem d_A_good_5 : decode b_A_good 5 = .ok (.lload_n 2, 1) := by decide +kernel
theorem d_A_good_6 : decode b_A_good 6 = .ok (.invokestatic 119, 3) := by decide +kernel
theorem d_A_good_9 : decode b_A_good 9 = .ok (.iload_n 1, 1) := by decide +kernel
theorem d_A_good_10 : decode b_A_good 10 = .ok (.lload_n 2, 1) := by decide +kernel
theorem d_A_good_11 : decode b_A_good 11 = .ok (.invokestatic 127, 3) := by decide +kernel
theorem d_A_good_14 : decode b_A_good 14 = .ok (.ireturn, 1) := by decide +kernel
theorem d_C_closes_0 : decode b_C_closes 0 = .ok (.lload_n 1, 1) := by decide +kernel
theorem d_C_closes_1 : decode b_C_closes 1 = .ok (.ldc2_w 13, 3) := by decide +kernel
theorem d_C_closes_4 : decode b_C_closes 4 = .ok (.lrem, 1) := by decide +kernel
theorem d_C_closes_5 : decode b_C_closes 5 = .ok (.l2i, 1) := by decide +kernel
theorem d_C_closes_6 : decode b_C_closes 6 = .ok (.istore_n 3, 1) := by decide +kernel
theorem d_C_closes_7 : decode b_C_closes 7 = .ok (.iload_n 0, 1) := by decide +kernel
theorem d_C_closes_8 : decode b_C_closes 8 = .ok (.lload_n 1, 1) := by decide +kernel
theorem d_C_closes_9 : decode b_C_closes 9 = .ok (.ldc2_w 13, 3) := by decide +kernel
theorem d_C_closes_12 : decode b_C_closes 12 = .ok (.ldiv, 1) := by decide +kernel
theorem d_C_closes_13 : decode b_C_closes 13 = .ok (.invokestatic 15, 3) := by decide +kernel
theorem d_C_closes_16 : decode b_C_closes 16 = .ok (.iload_n 3, 1) := by decide +kernel
theorem d_C_closes_17 : decode b_C_closes 17 = .ok (.if_icmp .ne 7, 3) := by decide +kernel
theorem d_C_closes_20 : decode b_C_closes 20 = .ok (.iconst 1, 1) := by decide +kernel
theorem d_C_closes_21 : decode b_C_closes 21 = .ok (.goto 4, 3) := by decide +kernel
theorem d_C_closes_24 : decode b_C_closes 24 = .ok (.iconst 0, 1) := by decide +kernel
theorem d_C_closes_25 : decode b_C_closes 25 = .ok (.ireturn, 1) := by decide +kernel
theorem d_A_tag_0 : decode b_A_tag 0 = .ok (.aload_n 0, 1) := by decide +kernel
theorem d_A_tag_1 : decode b_A_tag 1 = .ok (.iload_n 1, 1) := by decide +kernel
theorem d_A_tag_2 : decode b_A_tag 2 = .ok (.invokevirtual 90, 3) := by decide +kernel
theorem d_A_tag_5 : decode b_A_tag 5 = .ok (.astore 5, 2) := by decide +kernel
theorem d_A_tag_7 : decode b_A_tag 7 = .ok (.iload_n 3, 1) := by decide +kernel
theorem d_A_tag_8 : decode b_A_tag 8 = .ok (.bipush 16, 2) := by decide +kernel
theorem d_A_tag_10 : decode b_A_tag 10 = .ok (.invokestatic 40, 3) := by decide +kernel
theorem d_A_tag_13 : decode b_A_tag 13 = .ok (.iload_n 2, 1) := by decide +kernel
theorem d_A_tag_14 : decode b_A_tag 14 = .ok (.invokestatic 131, 3) := by decide +kernel
theorem d_A_tag_17 : decode b_A_tag 17 = .ok (.iload 4, 2) := by decide +kernel
theorem d_A_tag_19 : decode b_A_tag 19 = .ok (.invokestatic 131, 3) := by decide +kernel
theorem d_A_tag_22 : decode b_A_tag 22 = .ok (.iload 4, 2) := by decide +kernel
theorem d_A_tag_24 : decode b_A_tag 24 = .ok (.iload_n 2, 1) := by decide +kernel
theorem d_A_tag_25 : decode b_A_tag 25 = .ok (.if_icmp .ge 13, 3) := by decide +kernel
theorem d_A_tag_28 : decode b_A_tag 28 = .ok (.new 64, 3) := by decide +kernel
theorem d_A_tag_31 : decode b_A_tag 31 = .ok (.dup, 1) := by decide +kernel
theorem d_A_tag_32 : decode b_A_tag 32 = .ok (.ldc 134, 2) := by decide +kernel
theorem d_A_tag_34 : decode b_A_tag 34 = .ok (.invokespecial 68, 3) := by decide +kernel
theorem d_A_tag_37 : decode b_A_tag 37 = .ok (.athrow, 1) := by decide +kernel
theorem d_A_tag_38 : decode b_A_tag 38 = .ok (.aload 5, 2) := by decide +kernel
theorem d_A_tag_40 : decode b_A_tag 40 = .ok (.getfield 136, 3) := by decide +kernel
theorem d_A_tag_43 : decode b_A_tag 43 = .ok (.invokevirtual 44, 3) := by decide +kernel
theorem d_A_tag_46 : decode b_A_tag 46 = .ok (.bipush 24, 2) := by decide +kernel
theorem d_A_tag_48 : decode b_A_tag 48 = .ok (.if_icmp .lt 13, 3) := by decide +kernel
theorem d_A_tag_51 : decode b_A_tag 51 = .ok (.new 48, 3) := by decide +kernel
theorem d_A_tag_54 : decode b_A_tag 54 = .ok (.dup, 1) := by decide +kernel
theorem d_A_tag_55 : decode b_A_tag 55 = .ok (.ldc 139, 2) := by decide +kernel
theorem d_A_tag_57 : decode b_A_tag 57 = .ok (.invokespecial 52, 3) := by decide +kernel
theorem d_A_tag_60 : decode b_A_tag 60 = .ok (.athrow, 1) := by decide +kernel
theorem d_A_tag_61 : decode b_A_tag 61 = .ok (.aload 5, 2) := by decide +kernel
theorem d_A_tag_63 : decode b_A_tag 63 = .ok (.getfield 136, 3) := by decide +kernel
theorem d_A_tag_66 : decode b_A_tag 66 = .ok (.new 141, 3) := by decide +kernel
theorem d_A_tag_69 : decode b_A_tag 69 = .ok (.dup, 1) := by decide +kernel
theorem d_A_tag_70 : decode b_A_tag 70 = .ok (.iload_n 2, 1) := by decide +kernel
theorem d_A_tag_71 : decode b_A_tag 71 = .ok (.iload_n 3, 1) := by decide +kernel
theorem d_A_tag_72 : decode b_A_tag 72 = .ok (.iload 4, 2) := by decide +kernel
theorem d_A_tag_74 : decode b_A_tag 74 = .ok (.invokespecial 143, 3) := by decide +kernel
theorem d_A_tag_77 : decode b_A_tag 77 = .ok (.invokevirtual 60, 3) := by decide +kernel
theorem d_A_tag_80 : decode b_A_tag 80 = .ok (.pop, 1) := by decide +kernel
theorem d_A_tag_81 : decode b_A_tag 81 = .ok (.aload 5, 2) := by decide +kernel
theorem d_A_tag_83 : decode b_A_tag 83 = .ok (.getfield 136, 3) := by decide +kernel
theorem d_A_tag_86 : decode b_A_tag 86 = .ok (.invokevirtual 44, 3) := by decide +kernel
theorem d_A_tag_89 : decode b_A_tag 89 = .ok (.ireturn, 1) := by decide +kernel
theorem d_A_needHour_0 : decode b_A_needHour 0 = .ok (.iload_n 0, 1) := by decide +kernel
theorem d_A_needHour_1 : decode b_A_needHour 1 = .ok (.ifCond .lt 9, 3) := by decide +kernel
theorem d_A_needHour_4 : decode b_A_needHour 4 = .ok (.iload_n 0, 1) := by decide +kernel
theorem d_A_needHour_5 : decode b_A_needHour 5 = .ok (.ldc 197, 2) := by decide +kernel
theorem d_A_needHour_7 : decode b_A_needHour 7 = .ok (.if_icmp .le 13, 3) := by decide +kernel
theorem d_A_needHour_10 : decode b_A_needHour 10 = .ok (.new 64, 3) := by decide +kernel
theorem d_A_needHour_13 : decode b_A_needHour 13 = .ok (.dup, 1) := by decide +kernel
theorem d_A_needHour_14 : decode b_A_needHour 14 = .ok (.ldc 198, 2) := by decide +kernel
theorem d_A_needHour_16 : decode b_A_needHour 16 = .ok (.invokespecial 68, 3) := by decide +kernel
theorem d_A_needHour_19 : decode b_A_needHour 19 = .ok (.athrow, 1) := by decide +kernel
theorem d_A_needHour_20 : decode b_A_needHour 20 = .ok (.return_, 1) := by decide +kernel
theorem d_S_init_0 : decode b_S_init 0 = .ok (.aload_n 0, 1) := by decide +kernel
theorem d_S_init_1 : decode b_S_init 1 = .ok (.invokespecial 1, 3) := by decide +kernel
theorem d_S_init_4 : decode b_S_init 4 = .ok (.aload_n 0, 1) := by decide +kernel
theorem d_S_init_5 : decode b_S_init 5 = .ok (.iload_n 1, 1) := by decide +kernel
theorem d_S_init_6 : decode b_S_init 6 = .ok (.putfield 7, 3) := by decide +kernel
theorem d_S_init_9 : decode b_S_init 9 = .ok (.aload_n 0, 1) := by decide +kernel
theorem d_S_init_10 : decode b_S_init 10 = .ok (.iload_n 2, 1) := by decide +kernel
theorem d_S_init_11 : decode b_S_init 11 = .ok (.putfield 13, 3) := by decide +kernel
theorem d_S_init_14 : decode b_S_init 14 = .ok (.aload_n 0, 1) := by decide +kernel
theorem d_S_init_15 : decode b_S_init 15 = .ok (.iload_n 3, 1) := by decide +kernel
theorem d_S_init_16 : decode b_S_init 16 = .ok (.putfield 16, 3) := by decide +kernel
theorem d_S_init_19 : decode b_S_init 19 = .ok (.return_, 1) := by decide +kernel
theorem d_A_first_0 : decode b_A_first 0 = .ok (.aload_n 0, 1) := by decide +kernel
theorem d_A_first_1 : decode b_A_first 1 = .ok (.iload_n 1, 1) := by decide +kernel
theorem d_A_first_2 : decode b_A_first 2 = .ok (.invokevirtual 90, 3) := by decide +kernel
theorem d_A_first_5 : decode b_A_first 5 = .ok (.astore_n 3, 1) := by decide +kernel
theorem d_A_first_6 : decode b_A_first 6 = .ok (.iload_n 2, 1) := by decide +kernel
theorem d_A_first_7 : decode b_A_first 7 = .ok (.invokestatic 131, 3) := by decide +kernel
theorem d_A_first_10 : decode b_A_first 10 = .ok (.aload_n 3, 1) := by decide +kernel
theorem d_A_first_11 : decode b_A_first 11 = .ok (.iload_n 2, 1) := by decide +kernel
theorem d_A_first_12 : decode b_A_first 12 = .ok (.invokevirtual 144, 3) := by decide +kernel
theorem d_A_first_15 : decode b_A_first 15 = .ok (.astore 4, 2) := by decide +kernel
theorem d_A_first_17 : decode b_A_first 17 = .ok (.aload 4, 2) := by decide +kernel
theorem d_A_first_19 : decode b_A_first 19 = .ok (.ifnonnull 7, 3) := by decide +kernel
theorem d_A_first_22 : decode b_A_first 22 = .ok (.iconst 0, 1) := by decide +kernel
theorem d_A_first_23 : decode b_A_first 23 = .ok (.goto 10, 3) := by decide +kernel
theorem d_A_first_26 : decode b_A_first 26 = .ok (.aload 4, 2) := by decide +kernel
theorem d_A_first_28 : decode b_A_first 28 = .ok (.getfield 148, 3) := by decide +kernel
theorem d_A_first_31 : decode b_A_first 31 = .ok (.iconst 1, 1) := by decide +kernel
theorem d_A_first_32 : decode b_A_first 32 = .ok (.iadd, 1) := by decide +kernel
theorem d_A_first_33 : decode b_A_first 33 = .ok (.ireturn, 1) := by decide +kernel
theorem d_T_lastToldBy_0 : decode b_T_lastToldBy 0 = .ok (.aconst_null, 1) := by decide +kernel
theorem d_T_lastToldBy_1 : decode b_T_lastToldBy 1 = .ok (.astore_n 2, 1) := by decide +kernel
theorem d_T_lastToldBy_2 : decode b_T_lastToldBy 2 = .ok (.iconst 0, 1) := by decide +kernel
theorem d_T_lastToldBy_3 : decode b_T_lastToldBy 3 = .ok (.istore_n 3, 1) := by decide +kernel
theorem d_T_lastToldBy_4 : decode b_T_lastToldBy 4 = .ok (.iload_n 3, 1) := by decide +kernel
theorem d_T_lastToldBy_5 : decode b_T_lastToldBy 5 = .ok (.aload_n 0, 1) := by decide +kernel
theorem d_T_lastToldBy_6 : decode b_T_lastToldBy 6 = .ok (.getfield 12, 3) := by decide +kernel
theorem d_T_lastToldBy_9 : decode b_T_lastToldBy 9 = .ok (.invokevirtual 34, 3) := by decide +kernel
theorem d_T_lastToldBy_12 : decode b_T_lastToldBy 12 = .ok (.if_icmp .ge 47, 3) := by decide +kernel
theorem d_T_lastToldBy_15 : decode b_T_lastToldBy 15 = .ok (.aload_n 0, 1) := by decide +kernel
theorem d_T_lastToldBy_16 : decode b_T_lastToldBy 16 = .ok (.getfield 12, 3) := by decide +kernel
theorem d_T_lastToldBy_19 : decode b_T_lastToldBy 19 = .ok (.iload_n 3, 1) := by decide +kernel
theorem d_T_lastToldBy_20 : decode b_T_lastToldBy 20 = .ok (.invokevirtual 38, 3) := by decide +kernel
theorem d_T_lastToldBy_23 : decode b_T_lastToldBy 23 = .ok (.checkcast 42, 3) := by decide +kernel
theorem d_T_lastToldBy_26 : decode b_T_lastToldBy 26 = .ok (.astore 4, 2) := by decide +kernel
theorem d_T_lastToldBy_28 : decode b_T_lastToldBy 28 = .ok (.aload 4, 2) := by decide +kernel
theorem d_T_lastToldBy_30 : decode b_T_lastToldBy 30 = .ok (.getfield 44, 3) := by decide +kernel
theorem d_T_lastToldBy_33 : decode b_T_lastToldBy 33 = .ok (.iload_n 1, 1) := by decide +kernel
theorem d_T_lastToldBy_34 : decode b_T_lastToldBy 34 = .ok (.if_icmp .gt 19, 3) := by decide +kernel
theorem d_T_lastToldBy_37 : decode b_T_lastToldBy 37 = .ok (.aload_n 2, 1) := by decide +kernel
theorem d_T_lastToldBy_38 : decode b_T_lastToldBy 38 = .ok (.ifnull 12, 3) := by decide +kernel
theorem d_T_lastToldBy_41 : decode b_T_lastToldBy 41 = .ok (.aload 4, 2) := by decide +kernel
theorem d_T_lastToldBy_43 : decode b_T_lastToldBy 43 = .ok (.aload_n 2, 1) := by decide +kernel
theorem d_T_lastToldBy_44 : decode b_T_lastToldBy 44 = .ok (.invokevirtual 47, 3) := by decide +kernel
theorem d_T_lastToldBy_47 : decode b_T_lastToldBy 47 = .ok (.ifCond .eq 6, 3) := by decide +kernel
theorem d_T_lastToldBy_50 : decode b_T_lastToldBy 50 = .ok (.aload 4, 2) := by decide +kernel
theorem d_T_lastToldBy_52 : decode b_T_lastToldBy 52 = .ok (.astore_n 2, 1) := by decide +kernel
theorem d_T_lastToldBy_53 : decode b_T_lastToldBy 53 = .ok (.iinc 3 1, 3) := by decide +kernel
theorem d_T_lastToldBy_56 : decode b_T_lastToldBy 56 = .ok (.goto (-52), 3) := by decide +kernel
theorem d_T_lastToldBy_59 : decode b_T_lastToldBy 59 = .ok (.aload_n 2, 1) := by decide +kernel
theorem d_T_lastToldBy_60 : decode b_T_lastToldBy 60 = .ok (.areturn, 1) := by decide +kernel
theorem d_S_replaces_0 : decode b_S_replaces 0 = .ok (.aload_n 0, 1) := by decide +kernel
theorem d_S_replaces_1 : decode b_S_replaces 1 = .ok (.getfield 7, 3) := by decide +kernel
theorem d_S_replaces_4 : decode b_S_replaces 4 = .ok (.aload_n 1, 1) := by decide +kernel
theorem d_S_replaces_5 : decode b_S_replaces 5 = .ok (.getfield 7, 3) := by decide +kernel
theorem d_S_replaces_8 : decode b_S_replaces 8 = .ok (.if_icmp .eq 20, 3) := by decide +kernel
theorem d_S_replaces_11 : decode b_S_replaces 11 = .ok (.aload_n 0, 1) := by decide +kernel
theorem d_S_replaces_12 : decode b_S_replaces 12 = .ok (.getfield 7, 3) := by decide +kernel
theorem d_S_replaces_15 : decode b_S_replaces 15 = .ok (.aload_n 1, 1) := by decide +kernel
theorem d_S_replaces_16 : decode b_S_replaces 16 = .ok (.getfield 7, 3) := by decide +kernel
theorem d_S_replaces_19 : decode b_S_replaces 19 = .ok (.if_icmp .le 7, 3) := by decide +kernel
theorem d_S_replaces_22 : decode b_S_replaces 22 = .ok (.iconst 1, 1) := by decide +kernel
theorem d_S_replaces_23 : decode b_S_replaces 23 = .ok (.goto 4, 3) := by decide +kernel
theorem d_S_replaces_26 : decode b_S_replaces 26 = .ok (.iconst 0, 1) := by decide +kernel
theorem d_S_replaces_27 : decode b_S_replaces 27 = .ok (.ireturn, 1) := by decide +kernel
theorem d_S_replaces_28 : decode b_S_replaces 28 = .ok (.aload_n 0, 1) := by decide +kernel
theorem d_S_replaces_29 : decode b_S_replaces 29 = .ok (.getfield 16, 3) := by decide +kernel
theorem d_S_replaces_32 : decode b_S_replaces 32 = .ok (.aload_n 1, 1) := by decide +kernel
theorem d_S_replaces_33 : decode b_S_replaces 33 = .ok (.getfield 16, 3) := by decide +kernel
theorem d_S_replaces_36 : decode b_S_replaces 36 = .ok (.if_icmp .lt 7, 3) := by decide +kernel
theorem d_S_replaces_39 : decode b_S_replaces 39 = .ok (.iconst 1, 1) := by decide +kernel
theorem d_S_replaces_40 : decode b_S_replaces 40 = .ok (.goto 4, 3) := by decide +kernel
theorem d_S_replaces_43 : decode b_S_replaces 43 = .ok (.iconst 0, 1) := by decide +kernel
theorem d_S_replaces_44 : decode b_S_replaces 44 = .ok (.ireturn, 1) := by decide +kernel
theorem d_A_seen_0 : decode b_A_seen 0 = .ok (.aload_n 0, 1) := by decide +kernel
theorem d_A_seen_1 : decode b_A_seen 1 = .ok (.iload_n 1, 1) := by decide +kernel
theorem d_A_seen_2 : decode b_A_seen 2 = .ok (.invokevirtual 90, 3) := by decide +kernel
theorem d_A_seen_5 : decode b_A_seen 5 = .ok (.astore_n 3, 1) := by decide +kernel
theorem d_A_seen_6 : decode b_A_seen 6 = .ok (.iload_n 2, 1) := by decide +kernel
theorem d_A_seen_7 : decode b_A_seen 7 = .ok (.invokestatic 131, 3) := by decide +kernel
theorem d_A_seen_10 : decode b_A_seen 10 = .ok (.aload_n 3, 1) := by decide +kernel
theorem d_A_seen_11 : decode b_A_seen 11 = .ok (.iload_n 2, 1) := by decide +kernel
theorem d_A_seen_12 : decode b_A_seen 12 = .ok (.invokevirtual 144, 3) := by decide +kernel
theorem d_A_seen_15 : decode b_A_seen 15 = .ok (.astore 4, 2) := by decide +kernel
theorem d_A_seen_17 : decode b_A_seen 17 = .ok (.aload 4, 2) := by decide +kernel
theorem d_A_seen_19 : decode b_A_seen 19 = .ok (.ifnonnull 7, 3) := by decide +kernel
theorem d_A_seen_22 : decode b_A_seen 22 = .ok (.iconst (-1), 1) := by decide +kernel
theorem d_A_seen_23 : decode b_A_seen 23 = .ok (.goto 8, 3) := by decide +kernel
theorem d_A_seen_26 : decode b_A_seen 26 = .ok (.aload 4, 2) := by decide +kernel
theorem d_A_seen_28 : decode b_A_seen 28 = .ok (.getfield 151, 3) := by decide +kernel
theorem d_A_seen_31 : decode b_A_seen 31 = .ok (.ireturn, 1) := by decide +kernel
theorem d_A_weight_0 : decode b_A_weight 0 = .ok (.aload_n 0, 1) := by decide +kernel
theorem d_A_weight_1 : decode b_A_weight 1 = .ok (.iload_n 1, 1) := by decide +kernel
theorem d_A_weight_2 : decode b_A_weight 2 = .ok (.invokevirtual 90, 3) := by decide +kernel
theorem d_A_weight_5 : decode b_A_weight 5 = .ok (.astore_n 3, 1) := by decide +kernel
theorem d_A_weight_6 : decode b_A_weight 6 = .ok (.iload_n 2, 1) := by decide +kernel
theorem d_A_weight_7 : decode b_A_weight 7 = .ok (.iconst 1, 1) := by decide +kernel
theorem d_A_weight_8 : decode b_A_weight 8 = .ok (.if_icmp .lt 9, 3) := by decide +kernel
theorem d_A_weight_11 : decode b_A_weight 11 = .ok (.iload_n 2, 1) := by decide +kernel
theorem d_A_weight_12 : decode b_A_weight 12 = .ok (.ldc 152, 2) := by decide +kernel
theorem d_A_weight_14 : decode b_A_weight 14 = .ok (.if_icmp .le 13, 3) := by decide +kernel
theorem d_A_weight_17 : decode b_A_weight 17 = .ok (.new 64, 3) := by decide +kernel
theorem d_A_weight_20 : decode b_A_weight 20 = .ok (.dup, 1) := by decide +kernel
theorem d_A_weight_21 : decode b_A_weight 21 = .ok (.ldc 153, 2) := by decide +kernel
theorem d_A_weight_23 : decode b_A_weight 23 = .ok (.invokespecial 68, 3) := by decide +kernel
theorem d_A_weight_26 : decode b_A_weight 26 = .ok (.athrow, 1) := by decide +kernel
theorem d_A_weight_27 : decode b_A_weight 27 = .ok (.aload_n 3, 1) := by decide +kernel
theorem d_A_weight_28 : decode b_A_weight 28 = .ok (.getfield 155, 3) := by decide +kernel
theorem d_A_weight_31 : decode b_A_weight 31 = .ok (.ifCond .ne 7, 3) := by decide +kernel
theorem d_A_weight_34 : decode b_A_weight 34 = .ok (.iload_n 2, 1) := by decide +kernel
theorem d_A_weight_35 : decode b_A_weight 35 = .ok (.goto 7, 3) := by decide +kernel
theorem d_A_weight_38 : decode b_A_weight 38 = .ok (.aload_n 3, 1) := by decide +kernel
theorem d_A_weight_39 : decode b_A_weight 39 = .ok (.getfield 155, 3) := by decide +kernel
theorem d_A_weight_42 : decode b_A_weight 42 = .ok (.istore 4, 2) := by decide +kernel
theorem d_A_weight_44 : decode b_A_weight 44 = .ok (.aload_n 3, 1) := by decide +kernel
theorem d_A_weight_45 : decode b_A_weight 45 = .ok (.iload_n 2, 1) := by decide +kernel
theorem d_A_weight_46 : decode b_A_weight 46 = .ok (.putfield 155, 3) := by decide +kernel
theorem d_A_weight_49 : decode b_A_weight 49 = .ok (.iload_n 2, 1) := by decide +kernel
theorem d_A_weight_50 : decode b_A_weight 50 = .ok (.iload 4, 2) := by decide +kernel
theorem d_A_weight_52 : decode b_A_weight 52 = .ok (.isub, 1) := by decide +kernel
theorem d_A_weight_53 : decode b_A_weight 53 = .ok (.invokestatic 158, 3) := by decide +kernel
theorem d_A_weight_56 : decode b_A_weight 56 = .ok (.ireturn, 1) := by decide +kernel
theorem d_A_report_0 : decode b_A_report 0 = .ok (.iload_n 1, 1) := by decide +kernel
theorem d_A_report_1 : decode b_A_report 1 = .ok (.iconst 4, 1) := by decide +kernel
theorem d_A_report_2 : decode b_A_report 2 = .ok (.invokestatic 40, 3) := by decide +kernel
theorem d_A_report_5 : decode b_A_report 5 = .ok (.iload_n 2, 1) := by decide +kernel
theorem d_A_report_6 : decode b_A_report 6 = .ok (.invokestatic 163, 3) := by decide +kernel
theorem d_A_report_9 : decode b_A_report 9 = .ok (.iconst 0, 1) := by decide +kernel
theorem d_A_report_10 : decode b_A_report 10 = .ok (.istore_n 3, 1) := by decide +kernel
theorem d_A_report_11 : decode b_A_report 11 = .ok (.iconst 0, 1) := by decide +kernel
theorem d_A_report_12 : decode b_A_report 12 = .ok (.istore 4, 2) := by decide +kernel
theorem d_A_report_14 : decode b_A_report 14 = .ok (.iload 4, 2) := by decide +kernel
theorem d_A_report_16 : decode b_A_report 16 = .ok (.aload_n 0, 1) := by decide +kernel
theorem d_A_report_17 : decode b_A_report 17 = .ok (.getfield 19, 3) := by decide +kernel
theorem d_A_report_20 : decode b_A_report 20 = .ok (.invokevirtual 44, 3) := by decide +kernel
theorem d_A_report_23 : decode b_A_report 23 = .ok (.if_icmp .ge 39, 3) := by decide +kernel
theorem d_A_report_26 : decode b_A_report 26 = .ok (.aload_n 0, 1) := by decide +kernel
theorem d_A_report_27 : decode b_A_report 27 = .ok (.getfield 19, 3) := by decide +kernel
theorem d_A_report_30 : decode b_A_report 30 = .ok (.iload 4, 2) := by decide +kernel
theorem d_A_report_32 : decode b_A_report 32 = .ok (.invokevirtual 82, 3) := by decide +kernel
theorem d_A_report_35 : decode b_A_report 35 = .ok (.checkcast 55, 3) := by decide +kernel
theorem d_A_report_38 : decode b_A_report 38 = .ok (.getfield 101, 3) := by decide +kernel
theorem d_A_report_41 : decode b_A_report 41 = .ok (.iload_n 1, 1) := by decide +kernel
theorem d_A_report_42 : decode b_A_report 42 = .ok (.if_icmp .ne 14, 3) := by decide +kernel
theorem d_A_report_45 : decode b_A_report 45 = .ok (.iload_n 3, 1) := by decide +kernel
theorem d_A_report_46 : decode b_A_report 46 = .ok (.iload_n 2, 1) := by decide +kernel
theorem d_A_report_47 : decode b_A_report 47 = .ok (.if_icmp .ne 6, 3) := by decide +kernel
theorem d_A_report_50 : decode b_A_report 50 = .ok (.iload 4, 2) := by decide +kernel
theorem d_A_report_52 : decode b_A_report 52 = .ok (.ireturn, 1) := by decide +kernel
theorem d_A_report_53 : decode b_A_report 53 = .ok (.iinc 3 1, 3) := by decide +kernel
theorem d_A_report_56 : decode b_A_report 56 = .ok (.iinc 4 1, 3) := by decide +kernel
theorem d_A_report_59 : decode b_A_report 59 = .ok (.goto (-45), 3) := by decide +kernel
theorem d_A_report_62 : decode b_A_report 62 = .ok (.iconst (-1), 1) := by decide +kernel
theorem d_A_report_63 : decode b_A_report 63 = .ok (.ireturn, 1) := by decide +kernel
theorem d_A_needNotNegative_0 : decode b_A_needNotNegative 0 = .ok (.iload_n 0, 1) := by decide +kernel
theorem d_A_needNotNegative_1 : decode b_A_needNotNegative 1 = .ok (.ifCond .ge 13, 3) := by decide +kernel
theorem d_A_needNotNegative_4 : decode b_A_needNotNegative 4 = .ok (.new 188, 3) := by decide +kernel
theorem d_A_needNotNegative_7 : decode b_A_needNotNegative 7 = .ok (.dup, 1) := by decide +kernel
theorem d_A_needNotNegative_8 : decode b_A_needNotNegative 8 = .ok (.ldc 193, 2) := by decide +kernel
theorem d_A_needNotNegative_10 : decode b_A_needNotNegative 10 = .ok (.invokespecial 192, 3) := by decide +kernel
theorem d_A_needNotNegative_13 : decode b_A_needNotNegative 13 = .ok (.athrow, 1) := by decide +kernel
theorem d_A_needNotNegative_14 : decode b_A_needNotNegative 14 = .ok (.return_, 1) := by decide +kernel
theorem d_A_room_0 : decode b_A_room 0 = .ok (.iload_n 1, 1) := by decide +kernel
theorem d_A_room_1 : decode b_A_room 1 = .ok (.bipush 16, 2) := by decide +kernel
theorem d_A_room_3 : decode b_A_room 3 = .ok (.invokestatic 40, 3) := by decide +kernel
theorem d_A_room_6 : decode b_A_room 6 = .ok (.iload_n 2, 1) := by decide +kernel
theorem d_A_room_7 : decode b_A_room 7 = .ok (.invokestatic 163, 3) := by decide +kernel
theorem d_A_room_10 : decode b_A_room 10 = .ok (.iconst 0, 1) := by decide +kernel
theorem d_A_room_11 : decode b_A_room 11 = .ok (.istore_n 3, 1) := by decide +kernel
theorem d_A_room_12 : decode b_A_room 12 = .ok (.iconst 0, 1) := by decide +kernel
theorem d_A_room_13 : decode b_A_room 13 = .ok (.istore 4, 2) := by decide +kernel
theorem d_A_room_15 : decode b_A_room 15 = .ok (.iload 4, 2) := by decide +kernel
theorem d_A_room_17 : decode b_A_room 17 = .ok (.aload_n 0, 1) := by decide +kernel
theorem d_A_room_18 : decode b_A_room 18 = .ok (.getfield 19, 3) := by decide +kernel
theorem d_A_room_21 : decode b_A_room 21 = .ok (.invokevirtual 44, 3) := by decide +kernel
theorem d_A_room_24 : decode b_A_room 24 = .ok (.if_icmp .ge 39, 3) := by decide +kernel
theorem d_A_room_27 : decode b_A_room 27 = .ok (.aload_n 0, 1) := by decide +kernel
theorem d_A_room_28 : decode b_A_room 28 = .ok (.getfield 19, 3) := by decide +kernel
theorem d_A_room_31 : decode b_A_room 31 = .ok (.iload 4, 2) := by decide +kernel
theorem d_A_room_33 : decode b_A_room 33 = .ok (.invokevirtual 82, 3) := by decide +kernel
theorem d_A_room_36 : decode b_A_room 36 = .ok (.checkcast 55, 3) := by decide +kernel
theorem d_A_room_39 : decode b_A_room 39 = .ok (.getfield 98, 3) := by decide +kernel
theorem d_A_room_42 : decode b_A_room 42 = .ok (.iload_n 1, 1) := by decide +kernel
theorem d_A_room_43 : decode b_A_room 43 = .ok (.if_icmp .ne 14, 3) := by decide +kernel
theorem d_A_room_46 : decode b_A_room 46 = .ok (.iload_n 3, 1) := by decide +kernel
theorem d_A_room_47 : decode b_A_room 47 = .ok (.iload_n 2, 1) := by decide +kernel
theorem d_A_room_48 : decode b_A_room 48 = .ok (.if_icmp .ne 6, 3) := by decide +kernel
theorem d_A_room_51 : decode b_A_room 51 = .ok (.iload 4, 2) := by decide +kernel
theorem d_A_room_53 : decode b_A_room 53 = .ok (.ireturn, 1) := by decide +kernel
theorem d_A_room_54 : decode b_A_room 54 = .ok (.iinc 3 1, 3) := by decide +kernel
theorem d_A_room_57 : decode b_A_room 57 = .ok (.iinc 4 1, 3) := by decide +kernel
theorem d_A_room_60 : decode b_A_room 60 = .ok (.goto (-45), 3) := by decide +kernel
theorem d_A_room_63 : decode b_A_room 63 = .ok (.iconst (-1), 1) := by decide +kernel
theorem d_A_room_64 : decode b_A_room 64 = .ok (.ireturn, 1) := by decide +kernel
