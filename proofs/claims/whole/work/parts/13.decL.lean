theorem d_L_thing_0 : decode b_L_thing 0 = .ok (.aload_n 3, 1) := by decide +kernel
theorem d_L_thing_1 : decode b_L_thing 1 = .ok (.iconst 0, 1) := by decide +kernel
theorem d_L_thing_2 : decode b_L_thing 2 = .ok (.aload_n 0, 1) := by decide +kernel
theorem d_L_thing_3 : decode b_L_thing 3 = .ok (.iload_n 1, 1) := by decide +kernel
theorem d_L_thing_4 : decode b_L_thing 4 = .ok (.iload_n 2, 1) := by decide +kernel
theorem d_L_thing_5 : decode b_L_thing 5 = .ok (.invokevirtual 7, 3) := by decide +kernel
theorem d_L_thing_8 : decode b_L_thing 8 = .ok (.i2l, 1) := by decide +kernel
theorem d_L_thing_9 : decode b_L_thing 9 = .ok (.lastore, 1) := by decide +kernel
theorem d_L_thing_10 : decode b_L_thing 10 = .ok (.goto 11, 3) := by decide +kernel
theorem d_L_thing_13 : decode b_L_thing 13 = .ok (.astore 4, 2) := by decide +kernel
theorem d_L_thing_15 : decode b_L_thing 15 = .ok (.iconst 1, 1) := by decide +kernel
theorem d_L_thing_16 : decode b_L_thing 16 = .ok (.ireturn, 1) := by decide +kernel
theorem d_L_thing_17 : decode b_L_thing 17 = .ok (.astore 4, 2) := by decide +kernel
theorem d_L_thing_19 : decode b_L_thing 19 = .ok (.iconst 2, 1) := by decide +kernel
theorem d_L_thing_20 : decode b_L_thing 20 = .ok (.ireturn, 1) := by decide +kernel
theorem d_L_thing_21 : decode b_L_thing 21 = .ok (.iconst 0, 1) := by decide +kernel
theorem d_L_thing_22 : decode b_L_thing 22 = .ok (.ireturn, 1) := by decide +kernel
theorem d_L_list_0 : decode b_L_list 0 = .ok (.aload_n 2, 1) := by decide +kernel
theorem d_L_list_1 : decode b_L_list 1 = .ok (.iconst 0, 1) := by decide +kernel
theorem d_L_list_2 : decode b_L_list 2 = .ok (.aload_n 0, 1) := by decide +kernel
theorem d_L_list_3 : decode b_L_list 3 = .ok (.iload_n 1, 1) := by decide +kernel
theorem d_L_list_4 : decode b_L_list 4 = .ok (.invokevirtual 17, 3) := by decide +kernel
theorem d_L_list_7 : decode b_L_list 7 = .ok (.i2l, 1) := by decide +kernel
theorem d_L_list_8 : decode b_L_list 8 = .ok (.lastore, 1) := by decide +kernel
theorem d_L_list_9 : decode b_L_list 9 = .ok (.goto 6, 3) := by decide +kernel
theorem d_L_list_12 : decode b_L_list 12 = .ok (.astore_n 3, 1) := by decide +kernel
theorem d_L_list_13 : decode b_L_list 13 = .ok (.iconst 1, 1) := by decide +kernel
theorem d_L_list_14 : decode b_L_list 14 = .ok (.ireturn, 1) := by decide +kernel
theorem d_L_list_15 : decode b_L_list 15 = .ok (.iconst 0, 1) := by decide +kernel
theorem d_L_list_16 : decode b_L_list 16 = .ok (.ireturn, 1) := by decide +kernel
theorem d_L_drawn_0 : decode b_L_drawn 0 = .ok (.aload_n 2, 1) := by decide +kernel
theorem d_L_drawn_1 : decode b_L_drawn 1 = .ok (.iconst 0, 1) := by decide +kernel
theorem d_L_drawn_2 : decode b_L_drawn 2 = .ok (.aload_n 0, 1) := by decide +kernel
theorem d_L_drawn_3 : decode b_L_drawn 3 = .ok (.iload_n 1, 1) := by decide +kernel
theorem d_L_drawn_4 : decode b_L_drawn 4 = .ok (.invokevirtual 23, 3) := by decide +kernel
theorem d_L_drawn_7 : decode b_L_drawn 7 = .ok (.i2l, 1) := by decide +kernel
theorem d_L_drawn_8 : decode b_L_drawn 8 = .ok (.lastore, 1) := by decide +kernel
theorem d_L_drawn_9 : decode b_L_drawn 9 = .ok (.goto 6, 3) := by decide +kernel
theorem d_L_drawn_12 : decode b_L_drawn 12 = .ok (.astore_n 3, 1) := by decide +kernel
theorem d_L_drawn_13 : decode b_L_drawn 13 = .ok (.iconst 1, 1) := by decide +kernel
theorem d_L_drawn_14 : decode b_L_drawn 14 = .ok (.ireturn, 1) := by decide +kernel
theorem d_L_drawn_15 : decode b_L_drawn 15 = .ok (.iconst 0, 1) := by decide +kernel
theorem d_L_drawn_16 : decode b_L_drawn 16 = .ok (.ireturn, 1) := by decide +kernel
theorem d_L_check_0 : decode b_L_check 0 = .ok (.aload 5, 2) := by decide +kernel
theorem d_L_check_2 : decode b_L_check 2 = .ok (.iconst 0, 1) := by decide +kernel
theorem d_L_check_3 : decode b_L_check 3 = .ok (.aload_n 0, 1) := by decide +kernel
theorem d_L_check_4 : decode b_L_check 4 = .ok (.iload_n 1, 1) := by decide +kernel
theorem d_L_check_5 : decode b_L_check 5 = .ok (.iload_n 2, 1) := by decide +kernel
theorem d_L_check_6 : decode b_L_check 6 = .ok (.iload_n 3, 1) := by decide +kernel
theorem d_L_check_7 : decode b_L_check 7 = .ok (.iload 4, 2) := by decide +kernel
theorem d_L_check_9 : decode b_L_check 9 = .ok (.invokevirtual 26, 3) := by decide +kernel
theorem d_L_check_12 : decode b_L_check 12 = .ok (.i2l, 1) := by decide +kernel
theorem d_L_check_13 : decode b_L_check 13 = .ok (.lastore, 1) := by decide +kernel
theorem d_L_check_14 : decode b_L_check 14 = .ok (.goto 11, 3) := by decide +kernel
theorem d_L_check_17 : decode b_L_check 17 = .ok (.astore 6, 2) := by decide +kernel
theorem d_L_check_19 : decode b_L_check 19 = .ok (.iconst 1, 1) := by decide +kernel
theorem d_L_check_20 : decode b_L_check 20 = .ok (.ireturn, 1) := by decide +kernel
theorem d_L_check_21 : decode b_L_check 21 = .ok (.astore 6, 2) := by decide +kernel
theorem d_L_check_23 : decode b_L_check 23 = .ok (.iconst 2, 1) := by decide +kernel
theorem d_L_check_24 : decode b_L_check 24 = .ok (.ireturn, 1) := by decide +kernel
theorem d_L_check_25 : decode b_L_check 25 = .ok (.iconst 0, 1) := by decide +kernel
theorem d_L_check_26 : decode b_L_check 26 = .ok (.ireturn, 1) := by decide +kernel
theorem d_L_gone_0 : decode b_L_gone 0 = .ok (.aload_n 2, 1) := by decide +kernel
theorem d_L_gone_1 : decode b_L_gone 1 = .ok (.iconst 0, 1) := by decide +kernel
theorem d_L_gone_2 : decode b_L_gone 2 = .ok (.aload_n 0, 1) := by decide +kernel
theorem d_L_gone_3 : decode b_L_gone 3 = .ok (.iload_n 1, 1) := by decide +kernel
theorem d_L_gone_4 : decode b_L_gone 4 = .ok (.invokevirtual 30, 3) := by decide +kernel
theorem d_L_gone_7 : decode b_L_gone 7 = .ok (.ifCond .eq 7, 3) := by decide +kernel
theorem d_L_gone_10 : decode b_L_gone 10 = .ok (.lconst 1, 1) := by decide +kernel
theorem d_L_gone_11 : decode b_L_gone 11 = .ok (.goto 4, 3) := by decide +kernel
theorem d_L_gone_14 : decode b_L_gone 14 = .ok (.lconst 0, 1) := by decide +kernel
theorem d_L_gone_15 : decode b_L_gone 15 = .ok (.lastore, 1) := by decide +kernel
theorem d_L_gone_16 : decode b_L_gone 16 = .ok (.goto 9, 3) := by decide +kernel
theorem d_L_gone_19 : decode b_L_gone 19 = .ok (.astore_n 3, 1) := by decide +kernel
theorem d_L_gone_20 : decode b_L_gone 20 = .ok (.iconst 1, 1) := by decide +kernel
theorem d_L_gone_21 : decode b_L_gone 21 = .ok (.ireturn, 1) := by decide +kernel
theorem d_L_gone_22 : decode b_L_gone 22 = .ok (.astore_n 3, 1) := by decide +kernel
theorem d_L_gone_23 : decode b_L_gone 23 = .ok (.iconst 2, 1) := by decide +kernel
theorem d_L_gone_24 : decode b_L_gone 24 = .ok (.ireturn, 1) := by decide +kernel
theorem d_L_gone_25 : decode b_L_gone 25 = .ok (.iconst 0, 1) := by decide +kernel
theorem d_L_gone_26 : decode b_L_gone 26 = .ok (.ireturn, 1) := by decide +kernel
theorem d_L_share_0 : decode b_L_share 0 = .ok (.aload_n 3, 1) := by decide +kernel
theorem d_L_share_1 : decode b_L_share 1 = .ok (.iconst 0, 1) := by decide +kernel
theorem d_L_share_2 : decode b_L_share 2 = .ok (.aload_n 0, 1) := by decide +kernel
theorem d_L_share_3 : decode b_L_share 3 = .ok (.iload_n 1, 1) := by decide +kernel
theorem d_L_share_4 : decode b_L_share 4 = .ok (.iload_n 2, 1) := by decide +kernel
theorem d_L_share_5 : decode b_L_share 5 = .ok (.invokevirtual 34, 3) := by decide +kernel
theorem d_L_share_8 : decode b_L_share 8 = .ok (.i2l, 1) := by decide +kernel
theorem d_L_share_9 : decode b_L_share 9 = .ok (.lastore, 1) := by decide +kernel
theorem d_L_share_10 : decode b_L_share 10 = .ok (.goto 7, 3) := by decide +kernel
theorem d_L_share_13 : decode b_L_share 13 = .ok (.astore 4, 2) := by decide +kernel
theorem d_L_share_15 : decode b_L_share 15 = .ok (.iconst 1, 1) := by decide +kernel
theorem d_L_share_16 : decode b_L_share 16 = .ok (.ireturn, 1) := by decide +kernel
theorem d_L_share_17 : decode b_L_share 17 = .ok (.iconst 0, 1) := by decide +kernel
theorem d_L_share_18 : decode b_L_share 18 = .ok (.ireturn, 1) := by decide +kernel
theorem d_L_next_0 : decode b_L_next 0 = .ok (.aload_n 2, 1) := by decide +kernel
theorem d_L_next_1 : decode b_L_next 1 = .ok (.iconst 0, 1) := by decide +kernel
theorem d_L_next_2 : decode b_L_next 2 = .ok (.aload_n 0, 1) := by decide +kernel
theorem d_L_next_3 : decode b_L_next 3 = .ok (.iload_n 1, 1) := by decide +kernel
theorem d_L_next_4 : decode b_L_next 4 = .ok (.invokevirtual 37, 3) := by decide +kernel
theorem d_L_next_7 : decode b_L_next 7 = .ok (.i2l, 1) := by decide +kernel
theorem d_L_next_8 : decode b_L_next 8 = .ok (.lastore, 1) := by decide +kernel
theorem d_L_next_9 : decode b_L_next 9 = .ok (.goto 6, 3) := by decide +kernel
theorem d_L_next_12 : decode b_L_next 12 = .ok (.astore_n 3, 1) := by decide +kernel
theorem d_L_next_13 : decode b_L_next 13 = .ok (.iconst 1, 1) := by decide +kernel
theorem d_L_next_14 : decode b_L_next 14 = .ok (.ireturn, 1) := by decide +kernel
theorem d_L_next_15 : decode b_L_next 15 = .ok (.iconst 0, 1) := by decide +kernel
theorem d_L_next_16 : decode b_L_next 16 = .ok (.ireturn, 1) := by decide +kernel
theorem d_L_digit_0 : decode b_L_digit 0 = .ok (.aload 4, 2) := by decide +kernel
theorem d_L_digit_2 : decode b_L_digit 2 = .ok (.iconst 0, 1) := by decide +kernel
theorem d_L_digit_3 : decode b_L_digit 3 = .ok (.aload_n 0, 1) := by decide +kernel
theorem d_L_digit_4 : decode b_L_digit 4 = .ok (.iload_n 1, 1) := by decide +kernel
theorem d_L_digit_5 : decode b_L_digit 5 = .ok (.lload_n 2, 1) := by decide +kernel
theorem d_L_digit_6 : decode b_L_digit 6 = .ok (.invokevirtual 40, 3) := by decide +kernel
theorem d_L_digit_9 : decode b_L_digit 9 = .ok (.i2l, 1) := by decide +kernel
theorem d_L_digit_10 : decode b_L_digit 10 = .ok (.lastore, 1) := by decide +kernel
theorem d_L_digit_11 : decode b_L_digit 11 = .ok (.goto 11, 3) := by decide +kernel
theorem d_L_digit_14 : decode b_L_digit 14 = .ok (.astore 5, 2) := by decide +kernel
theorem d_L_digit_16 : decode b_L_digit 16 = .ok (.iconst 1, 1) := by decide +kernel
theorem d_L_digit_17 : decode b_L_digit 17 = .ok (.ireturn, 1) := by decide +kernel
theorem d_L_digit_18 : decode b_L_digit 18 = .ok (.astore 5, 2) := by decide +kernel
theorem d_L_digit_20 : decode b_L_digit 20 = .ok (.iconst 2, 1) := by decide +kernel
theorem d_L_digit_21 : decode b_L_digit 21 = .ok (.ireturn, 1) := by decide +kernel
theorem d_L_digit_22 : decode b_L_digit 22 = .ok (.iconst 0, 1) := by decide +kernel
theorem d_L_digit_23 : decode b_L_digit 23 = .ok (.ireturn, 1) := by decide +kernel
theorem d_L_good_0 : decode b_L_good 0 = .ok (.aload 4, 2) := by decide +kernel
theorem d_L_good_2 : decode b_L_good 2 = .ok (.iconst 0, 1) := by decide +kernel
theorem d_L_good_3 : decode b_L_good 3 = .ok (.aload_n 0, 1) := by decide +kernel
theorem d_L_good_4 : decode b_L_good 4 = .ok (.iload_n 1, 1) := by decide +kernel
theorem d_L_good_5 : decode b_L_good 5 = .ok (.lload_n 2, 1) := by decide +kernel
theorem d_L_good_6 : decode b_L_good 6 = .ok (.invokevirtual 44, 3) := by decide +kernel
theorem d_L_good_9 : decode b_L_good 9 = .ok (.ifCond .eq 7, 3) := by decide +kernel
theorem d_L_good_12 : decode b_L_good 12 = .ok (.lconst 1, 1) := by decide +kernel
theorem d_L_good_13 : decode b_L_good 13 = .ok (.goto 4, 3) := by decide +kernel
theorem d_L_good_16 : decode b_L_good 16 = .ok (.lconst 0, 1) := by decide +kernel
theorem d_L_good_17 : decode b_L_good 17 = .ok (.lastore, 1) := by decide +kernel
theorem d_L_good_18 : decode b_L_good 18 = .ok (.goto 11, 3) := by decide +kernel
theorem d_L_good_21 : decode b_L_good 21 = .ok (.astore 5, 2) := by decide +kernel
theorem d_L_good_23 : decode b_L_good 23 = .ok (.iconst 1, 1) := by decide +kernel
theorem d_L_good_24 : decode b_L_good 24 = .ok (.ireturn, 1) := by decide +kernel
theorem d_L_good_25 : decode b_L_good 25 = .ok (.astore 5, 2) := by decide +kernel
theorem d_L_good_27 : decode b_L_good 27 = .ok (.iconst 2, 1) := by decide +kernel
theorem d_L_good_28 : decode b_L_good 28 = .ok (.ireturn, 1) := by decide +kernel
theorem d_L_good_29 : decode b_L_good 29 = .ok (.iconst 0, 1) := by decide +kernel
theorem d_L_good_30 : decode b_L_good 30 = .ok (.ireturn, 1) := by decide +kernel
theorem d_L_tag_0 : decode b_L_tag 0 = .ok (.aload 5, 2) := by decide +kernel
theorem d_L_tag_2 : decode b_L_tag 2 = .ok (.iconst 0, 1) := by decide +kernel
theorem d_L_tag_3 : decode b_L_tag 3 = .ok (.aload_n 0, 1) := by decide +kernel
theorem d_L_tag_4 : decode b_L_tag 4 = .ok (.iload_n 1, 1) := by decide +kernel
theorem d_L_tag_5 : decode b_L_tag 5 = .ok (.iload_n 2, 1) := by decide +kernel
theorem d_L_tag_6 : decode b_L_tag 6 = .ok (.iload_n 3, 1) := by decide +kernel
theorem d_L_tag_7 : decode b_L_tag 7 = .ok (.iload 4, 2) := by decide +kernel
theorem d_L_tag_9 : decode b_L_tag 9 = .ok (.invokevirtual 48, 3) := by decide +kernel
theorem d_L_tag_12 : decode b_L_tag 12 = .ok (.i2l, 1) := by decide +kernel
theorem d_L_tag_13 : decode b_L_tag 13 = .ok (.lastore, 1) := by decide +kernel
theorem d_L_tag_14 : decode b_L_tag 14 = .ok (.goto 15, 3) := by decide +kernel
theorem d_L_tag_17 : decode b_L_tag 17 = .ok (.astore 6, 2) := by decide +kernel
theorem d_L_tag_19 : decode b_L_tag 19 = .ok (.iconst 1, 1) := by decide +kernel
theorem d_L_tag_20 : decode b_L_tag 20 = .ok (.ireturn, 1) := by decide +kernel
theorem d_L_tag_21 : decode b_L_tag 21 = .ok (.astore 6, 2) := by decide +kernel
theorem d_L_tag_23 : decode b_L_tag 23 = .ok (.iconst 2, 1) := by decide +kernel
theorem d_L_tag_24 : decode b_L_tag 24 = .ok (.ireturn, 1) := by decide +kernel
theorem d_L_tag_25 : decode b_L_tag 25 = .ok (.astore 6, 2) := by decide +kernel
theorem d_L_tag_27 : decode b_L_tag 27 = .ok (.iconst 3, 1) := by decide +kernel
theorem d_L_tag_28 : decode b_L_tag 28 = .ok (.ireturn, 1) := by decide +kernel
theorem d_L_tag_29 : decode b_L_tag 29 = .ok (.iconst 0, 1) := by decide +kernel
theorem d_L_tag_30 : decode b_L_tag 30 = .ok (.ireturn, 1) := by decide +kernel
theorem d_L_first_0 : decode b_L_first 0 = .ok (.aload_n 3, 1) := by decide +kernel
theorem d_L_first_1 : decode b_L_first 1 = .ok (.iconst 0, 1) := by decide +kernel
theorem d_L_first_2 : decode b_L_first 2 = .ok (.aload_n 0, 1) := by decide +kernel
theorem d_L_first_3 : decode b_L_first 3 = .ok (.iload_n 1, 1) := by decide +kernel
theorem d_L_first_4 : decode b_L_first 4 = .ok (.iload_n 2, 1) := by decide +kernel
theorem d_L_first_5 : decode b_L_first 5 = .ok (.invokevirtual 51, 3) := by decide +kernel
theorem d_L_first_8 : decode b_L_first 8 = .ok (.i2l, 1) := by decide +kernel
theorem d_L_first_9 : decode b_L_first 9 = .ok (.lastore, 1) := by decide +kernel
theorem d_L_first_10 : decode b_L_first 10 = .ok (.goto 11, 3) := by decide +kernel
theorem d_L_first_13 : decode b_L_first 13 = .ok (.astore 4, 2) := by decide +kernel
theorem d_L_first_15 : decode b_L_first 15 = .ok (.iconst 1, 1) := by decide +kernel
theorem d_L_first_16 : decode b_L_first 16 = .ok (.ireturn, 1) := by decide +kernel
theorem d_L_first_17 : decode b_L_first 17 = .ok (.astore 4, 2) := by decide +kernel
theorem d_L_first_19 : decode b_L_first 19 = .ok (.iconst 2, 1) := by decide +kernel
theorem d_L_first_20 : decode b_L_first 20 = .ok (.ireturn, 1) := by decide +kernel
theorem d_L_first_21 : decode b_L_first 21 = .ok (.iconst 0, 1) := by decide +kernel
theorem d_L_first_22 : decode b_L_first 22 = .ok (.ireturn, 1) := by decide +kernel
theorem d_L_seen_0 : decode b_L_seen 0 = .ok (.aload_n 3, 1) := by decide +kernel
theorem d_L_seen_1 : decode b_L_seen 1 = .ok (.iconst 0, 1) := by decide +kernel
theorem d_L_seen_2 : decode b_L_seen 2 = .ok (.aload_n 0, 1) := by decide +kernel
theorem d_L_seen_3 : decode b_L_seen 3 = .ok (.iload_n 1, 1) := by decide +kernel
theorem d_L_seen_4 : decode b_L_seen 4 = .ok (.iload_n 2, 1) := by decide +kernel
theorem d_L_seen_5 : decode b_L_seen 5 = .ok (.invokevirtual 54, 3) := by decide +kernel
theorem d_L_seen_8 : decode b_L_seen 8 = .ok (.i2l, 1) := by decide +kernel
theorem d_L_seen_9 : decode b_L_seen 9 = .ok (.lastore, 1) := by decide +kernel
theorem d_L_seen_10 : decode b_L_seen 10 = .ok (.goto 11, 3) := by decide +kernel
theorem d_L_seen_13 : decode b_L_seen 13 = .ok (.astore 4, 2) := by decide +kernel
theorem d_L_seen_15 : decode b_L_seen 15 = .ok (.iconst 1, 1) := by decide +kernel
theorem d_L_seen_16 : decode b_L_seen 16 = .ok (.ireturn, 1) := by decide +kernel
theorem d_L_seen_17 : decode b_L_seen 17 = .ok (.astore 4, 2) := by decide +kernel
theorem d_L_seen_19 : decode b_L_seen 19 = .ok (.iconst 2, 1) := by decide +kernel
theorem d_L_seen_20 : decode b_L_seen 20 = .ok (.ireturn, 1) := by decide +kernel
theorem d_L_seen_21 : decode b_L_seen 21 = .ok (.iconst 0, 1) := by decide +kernel
theorem d_L_seen_22 : decode b_L_seen 22 = .ok (.ireturn, 1) := by decide +kernel
theorem d_L_weight_0 : decode b_L_weight 0 = .ok (.aload_n 3, 1) := by decide +kernel
theorem d_L_weight_1 : decode b_L_weight 1 = .ok (.iconst 0, 1) := by decide +kernel
theorem d_L_weight_2 : decode b_L_weight 2 = .ok (.aload_n 0, 1) := by decide +kernel
theorem d_L_weight_3 : decode b_L_weight 3 = .ok (.iload_n 1, 1) := by decide +kernel
theorem d_L_weight_4 : decode b_L_weight 4 = .ok (.iload_n 2, 1) := by decide +kernel
theorem d_L_weight_5 : decode b_L_weight 5 = .ok (.invokevirtual 57, 3) := by decide +kernel
theorem d_L_weight_8 : decode b_L_weight 8 = .ok (.i2l, 1) := by decide +kernel
theorem d_L_weight_9 : decode b_L_weight 9 = .ok (.lastore, 1) := by decide +kernel
theorem d_L_weight_10 : decode b_L_weight 10 = .ok (.goto 11, 3) := by decide +kernel
theorem d_L_weight_13 : decode b_L_weight 13 = .ok (.astore 4, 2) := by decide +kernel
theorem d_L_weight_15 : decode b_L_weight 15 = .ok (.iconst 1, 1) := by decide +kernel
theorem d_L_weight_16 : decode b_L_weight 16 = .ok (.ireturn, 1) := by decide +kernel
theorem d_L_weight_17 : decode b_L_weight 17 = .ok (.astore 4, 2) := by decide +kernel
theorem d_L_weight_19 : decode b_L_weight 19 = .ok (.iconst 2, 1) := by decide +kernel
theorem d_L_weight_20 : decode b_L_weight 20 = .ok (.ireturn, 1) := by decide +kernel
theorem d_L_weight_21 : decode b_L_weight 21 = .ok (.iconst 0, 1) := by decide +kernel
theorem d_L_weight_22 : decode b_L_weight 22 = .ok (.ireturn, 1) := by decide +kernel
theorem d_L_report_0 : decode b_L_report 0 = .ok (.aload_n 3, 1) := by decide +kernel
theorem d_L_report_1 : decode b_L_report 1 = .ok (.iconst 0, 1) := by decide +kernel
theorem d_L_report_2 : decode b_L_report 2 = .ok (.aload_n 0, 1) := by decide +kernel
theorem d_L_report_3 : decode b_L_report 3 = .ok (.iload_n 1, 1) := by decide +kernel
theorem d_L_report_4 : decode b_L_report 4 = .ok (.iload_n 2, 1) := by decide +kernel
theorem d_L_report_5 : decode b_L_report 5 = .ok (.invokevirtual 60, 3) := by decide +kernel
theorem d_L_report_8 : decode b_L_report 8 = .ok (.i2l, 1) := by decide +kernel
theorem d_L_report_9 : decode b_L_report 9 = .ok (.lastore, 1) := by decide +kernel
theorem d_L_report_10 : decode b_L_report 10 = .ok (.goto 7, 3) := by decide +kernel
theorem d_L_report_13 : decode b_L_report 13 = .ok (.astore 4, 2) := by decide +kernel
theorem d_L_report_15 : decode b_L_report 15 = .ok (.iconst 1, 1) := by decide +kernel
theorem d_L_report_16 : decode b_L_report 16 = .ok (.ireturn, 1) := by decide +kernel
theorem d_L_report_17 : decode b_L_report 17 = .ok (.iconst 0, 1) := by decide +kernel
theorem d_L_report_18 : decode b_L_report 18 = .ok (.ireturn, 1) := by decide +kernel
theorem d_L_room_0 : decode b_L_room 0 = .ok (.aload_n 3, 1) := by decide +kernel
theorem d_L_room_1 : decode b_L_room 1 = .ok (.iconst 0, 1) := by decide +kernel
theorem d_L_room_2 : decode b_L_room 2 = .ok (.aload_n 0, 1) := by decide +kernel
theorem d_L_room_3 : decode b_L_room 3 = .ok (.iload_n 1, 1) := by decide +kernel
theorem d_L_room_4 : decode b_L_room 4 = .ok (.iload_n 2, 1) := by decide +kernel
theorem d_L_room_5 : decode b_L_room 5 = .ok (.invokevirtual 63, 3) := by decide +kernel
theorem d_L_room_8 : decode b_L_room 8 = .ok (.i2l, 1) := by decide +kernel
theorem d_L_room_9 : decode b_L_room 9 = .ok (.lastore, 1) := by decide +kernel
theorem d_L_room_10 : decode b_L_room 10 = .ok (.goto 7, 3) := by decide +kernel
theorem d_L_room_13 : decode b_L_room 13 = .ok (.astore 4, 2) := by decide +kernel
theorem d_L_room_15 : decode b_L_room 15 = .ok (.iconst 1, 1) := by decide +kernel
theorem d_L_room_16 : decode b_L_room 16 = .ok (.ireturn, 1) := by decide +kernel
theorem d_L_room_17 : decode b_L_room 17 = .ok (.iconst 0, 1) := by decide +kernel
theorem d_L_room_18 : decode b_L_room 18 = .ok (.ireturn, 1) := by decide +kernel
