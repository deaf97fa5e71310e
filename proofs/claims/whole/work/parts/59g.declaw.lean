theorem d_law_976 : decode code 976 = .ok (.ireturn, 1) := by decide +kernel
theorem d_law_977 : decode code 977 = .ok (.iload 5, 2) := by decide +kernel
theorem d_law_979 : decode code 979 = .ok (.ifCond .ne 15, 3) := by decide +kernel
theorem d_law_982 : decode code 982 = .ok (.aload_n 3, 1) := by decide +kernel
theorem d_law_983 : decode code 983 = .ok (.iconst 0, 1) := by decide +kernel
theorem d_law_984 : decode code 984 = .ok (.laload, 1) := by decide +kernel
theorem d_law_985 : decode code 985 = .ok (.iload 6, 2) := by decide +kernel
theorem d_law_987 : decode code 987 = .ok (.i2l, 1) := by decide +kernel
theorem d_law_988 : decode code 988 = .ok (.lcmp, 1) := by decide +kernel
theorem d_law_989 : decode code 989 = .ok (.ifCond .eq 5, 3) := by decide +kernel
theorem d_law_992 : decode code 992 = .ok (.iconst 0, 1) := by decide +kernel
theorem d_law_993 : decode code 993 = .ok (.ireturn, 1) := by decide +kernel
theorem d_law_994 : decode code 994 = .ok (.goto 275, 3) := by decide +kernel
theorem d_law_997 : decode code 997 = .ok (.aload_n 1, 1) := by decide +kernel
theorem d_law_998 : decode code 998 = .ok (.aload_n 0, 1) := by decide +kernel
theorem d_law_999 : decode code 999 = .ok (.iload 4, 2) := by decide +kernel
theorem d_law_1001 : decode code 1001 = .ok (.iconst 1, 1) := by decide +kernel
theorem d_law_1002 : decode code 1002 = .ok (.iadd, 1) := by decide +kernel
theorem d_law_1003 : decode code 1003 = .ok (.iaload, 1) := by decide +kernel
theorem d_law_1004 : decode code 1004 = .ok (.aload_n 0, 1) := by decide +kernel
theorem d_law_1005 : decode code 1005 = .ok (.iload 4, 2) := by decide +kernel
theorem d_law_1007 : decode code 1007 = .ok (.iconst 2, 1) := by decide +kernel
theorem d_law_1008 : decode code 1008 = .ok (.iadd, 1) := by decide +kernel
theorem d_law_1009 : decode code 1009 = .ok (.iaload, 1) := by decide +kernel
theorem d_law_1010 : decode code 1010 = .ok (.aload_n 3, 1) := by decide +kernel
theorem d_law_1011 : decode code 1011 = .ok (.invokestatic 120, 3) := by decide +kernel
theorem d_law_1014 : decode code 1014 = .ok (.istore 5, 2) := by decide +kernel
theorem d_law_1016 : decode code 1016 = .ok (.aload_n 2, 1) := by decide +kernel
theorem d_law_1017 : decode code 1017 = .ok (.aload_n 0, 1) := by decide +kernel
theorem d_law_1018 : decode code 1018 = .ok (.iload 4, 2) := by decide +kernel
theorem d_law_1020 : decode code 1020 = .ok (.iconst 1, 1) := by decide +kernel
theorem d_law_1021 : decode code 1021 = .ok (.iadd, 1) := by decide +kernel
theorem d_law_1022 : decode code 1022 = .ok (.iaload, 1) := by decide +kernel
theorem d_law_1023 : decode code 1023 = .ok (.aload_n 0, 1) := by decide +kernel
theorem d_law_1024 : decode code 1024 = .ok (.iload 4, 2) := by decide +kernel
theorem d_law_1026 : decode code 1026 = .ok (.iconst 2, 1) := by decide +kernel
theorem d_law_1027 : decode code 1027 = .ok (.iadd, 1) := by decide +kernel
theorem d_law_1028 : decode code 1028 = .ok (.iaload, 1) := by decide +kernel
theorem d_law_1029 : decode code 1029 = .ok (.invokevirtual 122, 3) := by decide +kernel
theorem d_law_1032 : decode code 1032 = .ok (.istore 6, 2) := by decide +kernel
theorem d_law_1034 : decode code 1034 = .ok (.aload_n 2, 1) := by decide +kernel
theorem d_law_1035 : decode code 1035 = .ok (.invokevirtual 83, 3) := by decide +kernel
theorem d_law_1038 : decode code 1038 = .ok (.iload 5, 2) := by decide +kernel
theorem d_law_1040 : decode code 1040 = .ok (.if_icmp .eq 5, 3) := by decide +kernel
theorem d_law_1043 : decode code 1043 = .ok (.iconst 0, 1) := by decide +kernel
theorem d_law_1044 : decode code 1044 = .ok (.ireturn, 1) := by decide +kernel
theorem d_law_1045 : decode code 1045 = .ok (.iload 5, 2) := by decide +kernel
theorem d_law_1047 : decode code 1047 = .ok (.ifCond .ne 15, 3) := by decide +kernel
theorem d_law_1050 : decode code 1050 = .ok (.aload_n 3, 1) := by decide +kernel
theorem d_law_1051 : decode code 1051 = .ok (.iconst 0, 1) := by decide +kernel
theorem d_law_1052 : decode code 1052 = .ok (.laload, 1) := by decide +kernel
theorem d_law_1053 : decode code 1053 = .ok (.iload 6, 2) := by decide +kernel
theorem d_law_1055 : decode code 1055 = .ok (.i2l, 1) := by decide +kernel
theorem d_law_1056 : decode code 1056 = .ok (.lcmp, 1) := by decide +kernel
theorem d_law_1057 : decode code 1057 = .ok (.ifCond .eq 5, 3) := by decide +kernel
theorem d_law_1060 : decode code 1060 = .ok (.iconst 0, 1) := by decide +kernel
theorem d_law_1061 : decode code 1061 = .ok (.ireturn, 1) := by decide +kernel
theorem d_law_1062 : decode code 1062 = .ok (.goto 207, 3) := by decide +kernel
theorem d_law_1065 : decode code 1065 = .ok (.aload_n 1, 1) := by decide +kernel
theorem d_law_1066 : decode code 1066 = .ok (.aload_n 0, 1) := by decide +kernel
theorem d_law_1067 : decode code 1067 = .ok (.iload 4, 2) := by decide +kernel
theorem d_law_1069 : decode code 1069 = .ok (.iconst 1, 1) := by decide +kernel
theorem d_law_1070 : decode code 1070 = .ok (.iadd, 1) := by decide +kernel
theorem d_law_1071 : decode code 1071 = .ok (.iaload, 1) := by decide +kernel
theorem d_law_1072 : decode code 1072 = .ok (.aload_n 0, 1) := by decide +kernel
theorem d_law_1073 : decode code 1073 = .ok (.iload 4, 2) := by decide +kernel
theorem d_law_1075 : decode code 1075 = .ok (.iconst 2, 1) := by decide +kernel
theorem d_law_1076 : decode code 1076 = .ok (.iadd, 1) := by decide +kernel
theorem d_law_1077 : decode code 1077 = .ok (.iaload, 1) := by decide +kernel
theorem d_law_1078 : decode code 1078 = .ok (.aload_n 3, 1) := by decide +kernel
theorem d_law_1079 : decode code 1079 = .ok (.invokestatic 123, 3) := by decide +kernel
theorem d_law_1082 : decode code 1082 = .ok (.istore 5, 2) := by decide +kernel
theorem d_law_1084 : decode code 1084 = .ok (.aload_n 2, 1) := by decide +kernel
theorem d_law_1085 : decode code 1085 = .ok (.aload_n 0, 1) := by decide +kernel
theorem d_law_1086 : decode code 1086 = .ok (.iload 4, 2) := by decide +kernel
theorem d_law_1088 : decode code 1088 = .ok (.iconst 1, 1) := by decide +kernel
theorem d_law_1089 : decode code 1089 = .ok (.iadd, 1) := by decide +kernel
theorem d_law_1090 : decode code 1090 = .ok (.iaload, 1) := by decide +kernel
theorem d_law_1091 : decode code 1091 = .ok (.aload_n 0, 1) := by decide +kernel
theorem d_law_1092 : decode code 1092 = .ok (.iload 4, 2) := by decide +kernel
theorem d_law_1094 : decode code 1094 = .ok (.iconst 2, 1) := by decide +kernel
theorem d_law_1095 : decode code 1095 = .ok (.iadd, 1) := by decide +kernel
theorem d_law_1096 : decode code 1096 = .ok (.iaload, 1) := by decide +kernel
theorem d_law_1097 : decode code 1097 = .ok (.invokevirtual 125, 3) := by decide +kernel
theorem d_law_1100 : decode code 1100 = .ok (.istore 6, 2) := by decide +kernel
theorem d_law_1102 : decode code 1102 = .ok (.aload_n 2, 1) := by decide +kernel
theorem d_law_1103 : decode code 1103 = .ok (.invokevirtual 83, 3) := by decide +kernel
theorem d_law_1106 : decode code 1106 = .ok (.iload 5, 2) := by decide +kernel
theorem d_law_1108 : decode code 1108 = .ok (.if_icmp .eq 5, 3) := by decide +kernel
theorem d_law_1111 : decode code 1111 = .ok (.iconst 0, 1) := by decide +kernel
theorem d_law_1112 : decode code 1112 = .ok (.ireturn, 1) := by decide +kernel
theorem d_law_1113 : decode code 1113 = .ok (.iload 5, 2) := by decide +kernel
theorem d_law_1115 : decode code 1115 = .ok (.ifCond .ne 15, 3) := by decide +kernel
theorem d_law_1118 : decode code 1118 = .ok (.aload_n 3, 1) := by decide +kernel
theorem d_law_1119 : decode code 1119 = .ok (.iconst 0, 1) := by decide +kernel
theorem d_law_1120 : decode code 1120 = .ok (.laload, 1) := by decide +kernel
theorem d_law_1121 : decode code 1121 = .ok (.iload 6, 2) := by decide +kernel
theorem d_law_1123 : decode code 1123 = .ok (.i2l, 1) := by decide +kernel
theorem d_law_1124 : decode code 1124 = .ok (.lcmp, 1) := by decide +kernel
theorem d_law_1125 : decode code 1125 = .ok (.ifCond .eq 5, 3) := by decide +kernel
