theorem dL_law_954 : decode cL_law 954 = .ok (.iconst 1, 1) := by decide +kernel
theorem dL_law_955 : decode cL_law 955 = .ok (.iadd, 1) := by decide +kernel
theorem dL_law_956 : decode cL_law 956 = .ok (.iaload, 1) := by decide +kernel
theorem dL_law_957 : decode cL_law 957 = .ok (.aload_n 0, 1) := by decide +kernel
theorem dL_law_958 : decode cL_law 958 = .ok (.iload 4, 2) := by decide +kernel
theorem dL_law_960 : decode cL_law 960 = .ok (.iconst 2, 1) := by decide +kernel
theorem dL_law_961 : decode cL_law 961 = .ok (.iadd, 1) := by decide +kernel
theorem dL_law_962 : decode cL_law 962 = .ok (.iaload, 1) := by decide +kernel
theorem dL_law_963 : decode cL_law 963 = .ok (.aload_n 3, 1) := by decide +kernel
theorem dL_law_964 : decode cL_law 964 = .ok (.invokestatic 131, 3) := by decide +kernel
theorem dL_law_967 : decode cL_law 967 = .ok (.istore 5, 2) := by decide +kernel
theorem dL_law_969 : decode cL_law 969 = .ok (.aload_n 2, 1) := by decide +kernel
theorem dL_law_970 : decode cL_law 970 = .ok (.aload_n 0, 1) := by decide +kernel
theorem dL_law_971 : decode cL_law 971 = .ok (.iload 4, 2) := by decide +kernel
theorem dL_law_973 : decode cL_law 973 = .ok (.iconst 1, 1) := by decide +kernel
theorem dL_law_974 : decode cL_law 974 = .ok (.iadd, 1) := by decide +kernel
theorem dL_law_975 : decode cL_law 975 = .ok (.iaload, 1) := by decide +kernel
theorem dL_law_976 : decode cL_law 976 = .ok (.aload_n 0, 1) := by decide +kernel
theorem dL_law_977 : decode cL_law 977 = .ok (.iload 4, 2) := by decide +kernel
theorem dL_law_979 : decode cL_law 979 = .ok (.iconst 2, 1) := by decide +kernel
theorem dL_law_980 : decode cL_law 980 = .ok (.iadd, 1) := by decide +kernel
theorem dL_law_981 : decode cL_law 981 = .ok (.iaload, 1) := by decide +kernel
theorem dL_law_982 : decode cL_law 982 = .ok (.invokevirtual 133, 3) := by decide +kernel
theorem dL_law_985 : decode cL_law 985 = .ok (.istore 6, 2) := by decide +kernel
theorem dL_law_987 : decode cL_law 987 = .ok (.aload_n 2, 1) := by decide +kernel
theorem dL_law_988 : decode cL_law 988 = .ok (.invokevirtual 96, 3) := by decide +kernel
theorem dL_law_991 : decode cL_law 991 = .ok (.iload 5, 2) := by decide +kernel
theorem dL_law_993 : decode cL_law 993 = .ok (.if_icmp .eq 5, 3) := by decide +kernel
theorem dL_law_996 : decode cL_law 996 = .ok (.iconst 0, 1) := by decide +kernel
theorem dL_law_997 : decode cL_law 997 = .ok (.ireturn, 1) := by decide +kernel
theorem dL_law_998 : decode cL_law 998 = .ok (.iload 5, 2) := by decide +kernel
theorem dL_law_1000 : decode cL_law 1000 = .ok (.ifCond .ne 15, 3) := by decide +kernel
theorem dL_law_1003 : decode cL_law 1003 = .ok (.aload_n 3, 1) := by decide +kernel
theorem dL_law_1004 : decode cL_law 1004 = .ok (.iconst 0, 1) := by decide +kernel
theorem dL_law_1005 : decode cL_law 1005 = .ok (.laload, 1) := by decide +kernel
theorem dL_law_1006 : decode cL_law 1006 = .ok (.iload 6, 2) := by decide +kernel
theorem dL_law_1008 : decode cL_law 1008 = .ok (.i2l, 1) := by decide +kernel
theorem dL_law_1009 : decode cL_law 1009 = .ok (.lcmp, 1) := by decide +kernel
theorem dL_law_1010 : decode cL_law 1010 = .ok (.ifCond .eq 5, 3) := by decide +kernel
theorem dL_law_1013 : decode cL_law 1013 = .ok (.iconst 0, 1) := by decide +kernel
theorem dL_law_1014 : decode cL_law 1014 = .ok (.ireturn, 1) := by decide +kernel
theorem dL_law_1015 : decode cL_law 1015 = .ok (.goto 750, 3) := by decide +kernel
theorem dL_law_1018 : decode cL_law 1018 = .ok (.aload_n 1, 1) := by decide +kernel
theorem dL_law_1019 : decode cL_law 1019 = .ok (.invokevirtual 134, 3) := by decide +kernel
theorem dL_law_1022 : decode cL_law 1022 = .ok (.aload_n 2, 1) := by decide +kernel
theorem dL_law_1023 : decode cL_law 1023 = .ok (.invokevirtual 137, 3) := by decide +kernel
theorem dL_law_1026 : decode cL_law 1026 = .ok (.if_icmp .eq 739, 3) := by decide +kernel
theorem dL_law_1029 : decode cL_law 1029 = .ok (.iconst 0, 1) := by decide +kernel
theorem dL_law_1030 : decode cL_law 1030 = .ok (.ireturn, 1) := by decide +kernel
theorem dL_law_1031 : decode cL_law 1031 = .ok (.aload_n 1, 1) := by decide +kernel
theorem dL_law_1032 : decode cL_law 1032 = .ok (.invokevirtual 138, 3) := by decide +kernel
theorem dL_law_1035 : decode cL_law 1035 = .ok (.aload_n 2, 1) := by decide +kernel
theorem dL_law_1036 : decode cL_law 1036 = .ok (.invokevirtual 141, 3) := by decide +kernel
theorem dL_law_1039 : decode cL_law 1039 = .ok (.if_icmp .eq 726, 3) := by decide +kernel
theorem dL_law_1042 : decode cL_law 1042 = .ok (.iconst 0, 1) := by decide +kernel
theorem dL_law_1043 : decode cL_law 1043 = .ok (.ireturn, 1) := by decide +kernel
theorem dL_law_1044 : decode cL_law 1044 = .ok (.aload_n 1, 1) := by decide +kernel
theorem dL_law_1045 : decode cL_law 1045 = .ok (.aload_n 0, 1) := by decide +kernel
theorem dL_law_1046 : decode cL_law 1046 = .ok (.iload 4, 2) := by decide +kernel
theorem dL_law_1048 : decode cL_law 1048 = .ok (.iconst 1, 1) := by decide +kernel
theorem dL_law_1049 : decode cL_law 1049 = .ok (.iadd, 1) := by decide +kernel
theorem dL_law_1050 : decode cL_law 1050 = .ok (.iaload, 1) := by decide +kernel
theorem dL_law_1051 : decode cL_law 1051 = .ok (.aload_n 3, 1) := by decide +kernel
theorem dL_law_1052 : decode cL_law 1052 = .ok (.invokestatic 142, 3) := by decide +kernel
theorem dL_law_1055 : decode cL_law 1055 = .ok (.istore 5, 2) := by decide +kernel
theorem dL_law_1057 : decode cL_law 1057 = .ok (.aload_n 2, 1) := by decide +kernel
theorem dL_law_1058 : decode cL_law 1058 = .ok (.aload_n 0, 1) := by decide +kernel
theorem dL_law_1059 : decode cL_law 1059 = .ok (.iload 4, 2) := by decide +kernel
theorem dL_law_1061 : decode cL_law 1061 = .ok (.iconst 1, 1) := by decide +kernel
theorem dL_law_1062 : decode cL_law 1062 = .ok (.iadd, 1) := by decide +kernel
theorem dL_law_1063 : decode cL_law 1063 = .ok (.iaload, 1) := by decide +kernel
theorem dL_law_1064 : decode cL_law 1064 = .ok (.invokevirtual 144, 3) := by decide +kernel
theorem dL_law_1067 : decode cL_law 1067 = .ok (.istore 6, 2) := by decide +kernel
theorem dL_law_1069 : decode cL_law 1069 = .ok (.aload_n 2, 1) := by decide +kernel
theorem dL_law_1070 : decode cL_law 1070 = .ok (.invokevirtual 96, 3) := by decide +kernel
theorem dL_law_1073 : decode cL_law 1073 = .ok (.iload 5, 2) := by decide +kernel
theorem dL_law_1075 : decode cL_law 1075 = .ok (.if_icmp .eq 5, 3) := by decide +kernel
theorem dL_law_1078 : decode cL_law 1078 = .ok (.iconst 0, 1) := by decide +kernel
theorem dL_law_1079 : decode cL_law 1079 = .ok (.ireturn, 1) := by decide +kernel
theorem dL_law_1080 : decode cL_law 1080 = .ok (.iload 5, 2) := by decide +kernel
theorem dL_law_1082 : decode cL_law 1082 = .ok (.ifCond .ne 15, 3) := by decide +kernel
theorem dL_law_1085 : decode cL_law 1085 = .ok (.aload_n 3, 1) := by decide +kernel
theorem dL_law_1086 : decode cL_law 1086 = .ok (.iconst 0, 1) := by decide +kernel
theorem dL_law_1087 : decode cL_law 1087 = .ok (.laload, 1) := by decide +kernel
theorem dL_law_1088 : decode cL_law 1088 = .ok (.iload 6, 2) := by decide +kernel
theorem dL_law_1090 : decode cL_law 1090 = .ok (.i2l, 1) := by decide +kernel
theorem dL_law_1091 : decode cL_law 1091 = .ok (.lcmp, 1) := by decide +kernel
theorem dL_law_1092 : decode cL_law 1092 = .ok (.ifCond .eq 5, 3) := by decide +kernel
theorem dL_law_1095 : decode cL_law 1095 = .ok (.iconst 0, 1) := by decide +kernel
theorem dL_law_1096 : decode cL_law 1096 = .ok (.ireturn, 1) := by decide +kernel
theorem dL_law_1097 : decode cL_law 1097 = .ok (.goto 668, 3) := by decide +kernel
theorem dL_law_1100 : decode cL_law 1100 = .ok (.aload_n 1, 1) := by decide +kernel
theorem dL_law_1101 : decode cL_law 1101 = .ok (.aload_n 0, 1) := by decide +kernel
theorem dL_law_1102 : decode cL_law 1102 = .ok (.iload 4, 2) := by decide +kernel
theorem dL_law_1104 : decode cL_law 1104 = .ok (.iconst 1, 1) := by decide +kernel
theorem dL_law_1105 : decode cL_law 1105 = .ok (.iadd, 1) := by decide +kernel
theorem dL_law_1106 : decode cL_law 1106 = .ok (.iaload, 1) := by decide +kernel
theorem dL_law_1107 : decode cL_law 1107 = .ok (.aload_n 0, 1) := by decide +kernel
theorem dL_law_1108 : decode cL_law 1108 = .ok (.iload 4, 2) := by decide +kernel
theorem dL_law_1110 : decode cL_law 1110 = .ok (.iconst 2, 1) := by decide +kernel
theorem dL_law_1111 : decode cL_law 1111 = .ok (.iadd, 1) := by decide +kernel
theorem dL_law_1112 : decode cL_law 1112 = .ok (.iaload, 1) := by decide +kernel
theorem dL_law_1113 : decode cL_law 1113 = .ok (.aload_n 3, 1) := by decide +kernel
theorem dL_law_1114 : decode cL_law 1114 = .ok (.invokestatic 145, 3) := by decide +kernel
theorem dL_law_1117 : decode cL_law 1117 = .ok (.istore 5, 2) := by decide +kernel
theorem dL_law_1119 : decode cL_law 1119 = .ok (.aload_n 2, 1) := by decide +kernel
theorem dL_law_1120 : decode cL_law 1120 = .ok (.aload_n 0, 1) := by decide +kernel
theorem dL_law_1121 : decode cL_law 1121 = .ok (.iload 4, 2) := by decide +kernel
theorem dL_law_1123 : decode cL_law 1123 = .ok (.iconst 1, 1) := by decide +kernel
theorem dL_law_1124 : decode cL_law 1124 = .ok (.iadd, 1) := by decide +kernel
theorem dL_law_1125 : decode cL_law 1125 = .ok (.iaload, 1) := by decide +kernel
theorem dL_law_1126 : decode cL_law 1126 = .ok (.aload_n 0, 1) := by decide +kernel
theorem dL_law_1127 : decode cL_law 1127 = .ok (.iload 4, 2) := by decide +kernel
theorem dL_law_1129 : decode cL_law 1129 = .ok (.iconst 2, 1) := by decide +kernel
theorem dL_law_1130 : decode cL_law 1130 = .ok (.iadd, 1) := by decide +kernel
theorem dL_law_1131 : decode cL_law 1131 = .ok (.iaload, 1) := by decide +kernel
theorem dL_law_1132 : decode cL_law 1132 = .ok (.invokevirtual 147, 3) := by decide +kernel
theorem dL_law_1135 : decode cL_law 1135 = .ok (.istore 6, 2) := by decide +kernel
theorem dL_law_1137 : decode cL_law 1137 = .ok (.aload_n 2, 1) := by decide +kernel
theorem dL_law_1138 : decode cL_law 1138 = .ok (.invokevirtual 96, 3) := by decide +kernel
