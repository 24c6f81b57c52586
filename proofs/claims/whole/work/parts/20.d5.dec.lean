/-! The law: what stands at its places, 5. -/
theorem dC_955 : decode code 955 = .ok (.aload_n 3, 1) := by decide +kernel
theorem dC_956 : decode code 956 = .ok (.invokestatic 153, 3) := by decide +kernel
theorem dC_959 : decode code 959 = .ok (.istore 6, 2) := by decide +kernel
theorem dC_961 : decode code 961 = .ok (.aload_n 2, 1) := by decide +kernel
theorem dC_962 : decode code 962 = .ok (.aload_n 0, 1) := by decide +kernel
theorem dC_963 : decode code 963 = .ok (.iload 5, 2) := by decide +kernel
theorem dC_965 : decode code 965 = .ok (.iconst 1, 1) := by decide +kernel
theorem dC_966 : decode code 966 = .ok (.iadd, 1) := by decide +kernel
theorem dC_967 : decode code 967 = .ok (.iaload, 1) := by decide +kernel
theorem dC_968 : decode code 968 = .ok (.aload_n 0, 1) := by decide +kernel
theorem dC_969 : decode code 969 = .ok (.iload 5, 2) := by decide +kernel
theorem dC_971 : decode code 971 = .ok (.iconst 2, 1) := by decide +kernel
theorem dC_972 : decode code 972 = .ok (.iadd, 1) := by decide +kernel
theorem dC_973 : decode code 973 = .ok (.iaload, 1) := by decide +kernel
theorem dC_974 : decode code 974 = .ok (.invokevirtual 155, 3) := by decide +kernel
theorem dC_977 : decode code 977 = .ok (.istore 7, 2) := by decide +kernel
theorem dC_979 : decode code 979 = .ok (.aload_n 2, 1) := by decide +kernel
theorem dC_980 : decode code 980 = .ok (.invokevirtual 110, 3) := by decide +kernel
theorem dC_983 : decode code 983 = .ok (.iload 6, 2) := by decide +kernel
theorem dC_985 : decode code 985 = .ok (.if_icmp .eq 5, 3) := by decide +kernel
theorem dC_990 : decode code 990 = .ok (.iload 6, 2) := by decide +kernel
theorem dC_992 : decode code 992 = .ok (.ifCond .ne 15, 3) := by decide +kernel
theorem dC_995 : decode code 995 = .ok (.aload_n 3, 1) := by decide +kernel
theorem dC_996 : decode code 996 = .ok (.iconst 0, 1) := by decide +kernel
theorem dC_997 : decode code 997 = .ok (.laload, 1) := by decide +kernel
theorem dC_998 : decode code 998 = .ok (.iload 7, 2) := by decide +kernel
theorem dC_1000 : decode code 1000 = .ok (.i2l, 1) := by decide +kernel
theorem dC_1001 : decode code 1001 = .ok (.lcmp, 1) := by decide +kernel
theorem dC_1002 : decode code 1002 = .ok (.ifCond .eq 5, 3) := by decide +kernel
theorem dC_1007 : decode code 1007 = .ok (.goto 744, 3) := by decide +kernel
theorem dC_1010 : decode code 1010 = .ok (.aload_n 1, 1) := by decide +kernel
theorem dC_1011 : decode code 1011 = .ok (.aload_n 0, 1) := by decide +kernel
theorem dC_1012 : decode code 1012 = .ok (.iload 5, 2) := by decide +kernel
theorem dC_1014 : decode code 1014 = .ok (.iconst 1, 1) := by decide +kernel
theorem dC_1015 : decode code 1015 = .ok (.iadd, 1) := by decide +kernel
theorem dC_1016 : decode code 1016 = .ok (.iaload, 1) := by decide +kernel
theorem dC_1017 : decode code 1017 = .ok (.aload_n 0, 1) := by decide +kernel
theorem dC_1018 : decode code 1018 = .ok (.iload 5, 2) := by decide +kernel
theorem dC_1020 : decode code 1020 = .ok (.iconst 2, 1) := by decide +kernel
theorem dC_1021 : decode code 1021 = .ok (.iadd, 1) := by decide +kernel
theorem dC_1022 : decode code 1022 = .ok (.iaload, 1) := by decide +kernel
theorem dC_1023 : decode code 1023 = .ok (.aload_n 3, 1) := by decide +kernel
theorem dC_1024 : decode code 1024 = .ok (.invokestatic 156, 3) := by decide +kernel
theorem dC_1027 : decode code 1027 = .ok (.istore 6, 2) := by decide +kernel
theorem dC_1029 : decode code 1029 = .ok (.aload_n 2, 1) := by decide +kernel
theorem dC_1030 : decode code 1030 = .ok (.aload_n 0, 1) := by decide +kernel
theorem dC_1031 : decode code 1031 = .ok (.iload 5, 2) := by decide +kernel
theorem dC_1033 : decode code 1033 = .ok (.iconst 1, 1) := by decide +kernel
theorem dC_1034 : decode code 1034 = .ok (.iadd, 1) := by decide +kernel
theorem dC_1035 : decode code 1035 = .ok (.iaload, 1) := by decide +kernel
theorem dC_1036 : decode code 1036 = .ok (.aload_n 0, 1) := by decide +kernel
theorem dC_1037 : decode code 1037 = .ok (.iload 5, 2) := by decide +kernel
theorem dC_1039 : decode code 1039 = .ok (.iconst 2, 1) := by decide +kernel
theorem dC_1040 : decode code 1040 = .ok (.iadd, 1) := by decide +kernel
theorem dC_1041 : decode code 1041 = .ok (.iaload, 1) := by decide +kernel
theorem dC_1042 : decode code 1042 = .ok (.invokevirtual 158, 3) := by decide +kernel
theorem dC_1045 : decode code 1045 = .ok (.istore 7, 2) := by decide +kernel
theorem dC_1047 : decode code 1047 = .ok (.aload_n 2, 1) := by decide +kernel
theorem dC_1048 : decode code 1048 = .ok (.invokevirtual 110, 3) := by decide +kernel
theorem dC_1051 : decode code 1051 = .ok (.iload 6, 2) := by decide +kernel
theorem dC_1053 : decode code 1053 = .ok (.if_icmp .eq 5, 3) := by decide +kernel
theorem dC_1058 : decode code 1058 = .ok (.iload 6, 2) := by decide +kernel
theorem dC_1060 : decode code 1060 = .ok (.ifCond .ne 22, 3) := by decide +kernel
theorem dC_1063 : decode code 1063 = .ok (.aload_n 3, 1) := by decide +kernel
theorem dC_1064 : decode code 1064 = .ok (.iconst 0, 1) := by decide +kernel
theorem dC_1065 : decode code 1065 = .ok (.laload, 1) := by decide +kernel
theorem dC_1066 : decode code 1066 = .ok (.iload 7, 2) := by decide +kernel
theorem dC_1068 : decode code 1068 = .ok (.ifCond .eq 7, 3) := by decide +kernel
theorem dC_1071 : decode code 1071 = .ok (.lconst 1, 1) := by decide +kernel
theorem dC_1072 : decode code 1072 = .ok (.goto 4, 3) := by decide +kernel
theorem dC_1075 : decode code 1075 = .ok (.lconst 0, 1) := by decide +kernel
theorem dC_1076 : decode code 1076 = .ok (.lcmp, 1) := by decide +kernel
theorem dC_1077 : decode code 1077 = .ok (.ifCond .eq 5, 3) := by decide +kernel
theorem dC_1082 : decode code 1082 = .ok (.goto 669, 3) := by decide +kernel
theorem dC_1085 : decode code 1085 = .ok (.aload_n 1, 1) := by decide +kernel
theorem dC_1086 : decode code 1086 = .ok (.aload_n 0, 1) := by decide +kernel
theorem dC_1087 : decode code 1087 = .ok (.iload 5, 2) := by decide +kernel
theorem dC_1089 : decode code 1089 = .ok (.iconst 1, 1) := by decide +kernel
theorem dC_1090 : decode code 1090 = .ok (.iadd, 1) := by decide +kernel
theorem dC_1091 : decode code 1091 = .ok (.iaload, 1) := by decide +kernel
theorem dC_1092 : decode code 1092 = .ok (.aload_n 3, 1) := by decide +kernel
theorem dC_1093 : decode code 1093 = .ok (.invokestatic 159, 3) := by decide +kernel
theorem dC_1096 : decode code 1096 = .ok (.istore 6, 2) := by decide +kernel
theorem dC_1098 : decode code 1098 = .ok (.aload_n 2, 1) := by decide +kernel
theorem dC_1099 : decode code 1099 = .ok (.aload_n 0, 1) := by decide +kernel
theorem dC_1100 : decode code 1100 = .ok (.iload 5, 2) := by decide +kernel
theorem dC_1102 : decode code 1102 = .ok (.iconst 1, 1) := by decide +kernel
theorem dC_1103 : decode code 1103 = .ok (.iadd, 1) := by decide +kernel
theorem dC_1104 : decode code 1104 = .ok (.iaload, 1) := by decide +kernel
theorem dC_1105 : decode code 1105 = .ok (.invokevirtual 162, 3) := by decide +kernel
theorem dC_1108 : decode code 1108 = .ok (.istore 7, 2) := by decide +kernel
theorem dC_1110 : decode code 1110 = .ok (.aload_n 2, 1) := by decide +kernel
theorem dC_1111 : decode code 1111 = .ok (.invokevirtual 110, 3) := by decide +kernel
theorem dC_1114 : decode code 1114 = .ok (.iload 6, 2) := by decide +kernel
theorem dC_1116 : decode code 1116 = .ok (.if_icmp .eq 5, 3) := by decide +kernel
theorem dC_1121 : decode code 1121 = .ok (.iload 6, 2) := by decide +kernel
theorem dC_1123 : decode code 1123 = .ok (.ifCond .ne 15, 3) := by decide +kernel
theorem dC_1126 : decode code 1126 = .ok (.aload_n 3, 1) := by decide +kernel
theorem dC_1127 : decode code 1127 = .ok (.iconst 0, 1) := by decide +kernel
theorem dC_1128 : decode code 1128 = .ok (.laload, 1) := by decide +kernel
theorem dC_1129 : decode code 1129 = .ok (.iload 7, 2) := by decide +kernel
theorem dC_1131 : decode code 1131 = .ok (.i2l, 1) := by decide +kernel
theorem dC_1132 : decode code 1132 = .ok (.lcmp, 1) := by decide +kernel
theorem dC_1133 : decode code 1133 = .ok (.ifCond .eq 5, 3) := by decide +kernel
theorem dC_1138 : decode code 1138 = .ok (.goto 613, 3) := by decide +kernel
theorem dC_1141 : decode code 1141 = .ok (.aload_n 1, 1) := by decide +kernel
theorem dC_1142 : decode code 1142 = .ok (.aload_n 0, 1) := by decide +kernel
theorem dC_1143 : decode code 1143 = .ok (.iload 5, 2) := by decide +kernel
theorem dC_1145 : decode code 1145 = .ok (.iconst 1, 1) := by decide +kernel
theorem dC_1146 : decode code 1146 = .ok (.iadd, 1) := by decide +kernel
theorem dC_1147 : decode code 1147 = .ok (.iaload, 1) := by decide +kernel
theorem dC_1148 : decode code 1148 = .ok (.aload_n 3, 1) := by decide +kernel
theorem dC_1149 : decode code 1149 = .ok (.invokestatic 163, 3) := by decide +kernel
theorem dC_1152 : decode code 1152 = .ok (.istore 6, 2) := by decide +kernel
theorem dC_1154 : decode code 1154 = .ok (.aload_n 2, 1) := by decide +kernel
theorem dC_1155 : decode code 1155 = .ok (.aload_n 0, 1) := by decide +kernel
theorem dC_1156 : decode code 1156 = .ok (.iload 5, 2) := by decide +kernel
theorem dC_1158 : decode code 1158 = .ok (.iconst 1, 1) := by decide +kernel
theorem dC_1159 : decode code 1159 = .ok (.iadd, 1) := by decide +kernel
theorem dC_1160 : decode code 1160 = .ok (.iaload, 1) := by decide +kernel
theorem dC_1161 : decode code 1161 = .ok (.invokevirtual 165, 3) := by decide +kernel
theorem dC_1164 : decode code 1164 = .ok (.istore 7, 2) := by decide +kernel
theorem dC_1166 : decode code 1166 = .ok (.aload_n 2, 1) := by decide +kernel
theorem dC_1167 : decode code 1167 = .ok (.invokevirtual 110, 3) := by decide +kernel
theorem dC_1170 : decode code 1170 = .ok (.iload 6, 2) := by decide +kernel
theorem dC_1172 : decode code 1172 = .ok (.if_icmp .eq 5, 3) := by decide +kernel
theorem dC_1177 : decode code 1177 = .ok (.iload 6, 2) := by decide +kernel
theorem dC_1179 : decode code 1179 = .ok (.ifCond .ne 15, 3) := by decide +kernel
theorem dC_1182 : decode code 1182 = .ok (.aload_n 3, 1) := by decide +kernel
theorem dC_1183 : decode code 1183 = .ok (.iconst 0, 1) := by decide +kernel
