/-! the law, decoded: 1064 and on -/
theorem dl_1064 : decode code 1064 = .ok (.aload_n 1, 1) := by decide +kernel
theorem dl_1065 : decode code 1065 = .ok (.aload_n 0, 1) := by decide +kernel
theorem dl_1066 : decode code 1066 = .ok (.iload 4, 2) := by decide +kernel
theorem dl_1068 : decode code 1068 = .ok (.iconst 1, 1) := by decide +kernel
theorem dl_1069 : decode code 1069 = .ok (.iadd, 1) := by decide +kernel
theorem dl_1070 : decode code 1070 = .ok (.iaload, 1) := by decide +kernel
theorem dl_1071 : decode code 1071 = .ok (.invokevirtual 129, 3) := by decide +kernel
theorem dl_1074 : decode code 1074 = .ok (.aload_n 2, 1) := by decide +kernel
theorem dl_1075 : decode code 1075 = .ok (.aload_n 0, 1) := by decide +kernel
theorem dl_1076 : decode code 1076 = .ok (.iload 4, 2) := by decide +kernel
theorem dl_1078 : decode code 1078 = .ok (.iconst 1, 1) := by decide +kernel
theorem dl_1079 : decode code 1079 = .ok (.iadd, 1) := by decide +kernel
theorem dl_1080 : decode code 1080 = .ok (.iaload, 1) := by decide +kernel
theorem dl_1081 : decode code 1081 = .ok (.invokevirtual 132, 3) := by decide +kernel
theorem dl_1084 : decode code 1084 = .ok (.if_icmp .eq 721, 3) := by decide +kernel
theorem dl_1087 : decode code 1087 = .ok (.iconst 0, 1) := by decide +kernel
theorem dl_1088 : decode code 1088 = .ok (.ireturn, 1) := by decide +kernel
theorem dl_1089 : decode code 1089 = .ok (.aload_n 1, 1) := by decide +kernel
theorem dl_1090 : decode code 1090 = .ok (.invokevirtual 133, 3) := by decide +kernel
theorem dl_1093 : decode code 1093 = .ok (.aload_n 2, 1) := by decide +kernel
theorem dl_1094 : decode code 1094 = .ok (.invokevirtual 136, 3) := by decide +kernel
theorem dl_1097 : decode code 1097 = .ok (.if_icmp .eq 708, 3) := by decide +kernel
theorem dl_1100 : decode code 1100 = .ok (.iconst 0, 1) := by decide +kernel
theorem dl_1101 : decode code 1101 = .ok (.ireturn, 1) := by decide +kernel
theorem dl_1102 : decode code 1102 = .ok (.aload_n 1, 1) := by decide +kernel
theorem dl_1103 : decode code 1103 = .ok (.aload_n 0, 1) := by decide +kernel
theorem dl_1104 : decode code 1104 = .ok (.iload 4, 2) := by decide +kernel
theorem dl_1106 : decode code 1106 = .ok (.iconst 1, 1) := by decide +kernel
theorem dl_1107 : decode code 1107 = .ok (.iadd, 1) := by decide +kernel
theorem dl_1108 : decode code 1108 = .ok (.iaload, 1) := by decide +kernel
theorem dl_1109 : decode code 1109 = .ok (.invokevirtual 137, 3) := by decide +kernel
theorem dl_1112 : decode code 1112 = .ok (.aload_n 2, 1) := by decide +kernel
theorem dl_1113 : decode code 1113 = .ok (.aload_n 0, 1) := by decide +kernel
theorem dl_1114 : decode code 1114 = .ok (.iload 4, 2) := by decide +kernel
theorem dl_1116 : decode code 1116 = .ok (.iconst 1, 1) := by decide +kernel
theorem dl_1117 : decode code 1117 = .ok (.iadd, 1) := by decide +kernel
theorem dl_1118 : decode code 1118 = .ok (.iaload, 1) := by decide +kernel
theorem dl_1119 : decode code 1119 = .ok (.invokevirtual 140, 3) := by decide +kernel
theorem dl_1122 : decode code 1122 = .ok (.if_icmp .eq 683, 3) := by decide +kernel
theorem dl_1125 : decode code 1125 = .ok (.iconst 0, 1) := by decide +kernel
theorem dl_1126 : decode code 1126 = .ok (.ireturn, 1) := by decide +kernel
theorem dl_1127 : decode code 1127 = .ok (.aload_n 1, 1) := by decide +kernel
theorem dl_1128 : decode code 1128 = .ok (.aload_n 0, 1) := by decide +kernel
theorem dl_1129 : decode code 1129 = .ok (.iload 4, 2) := by decide +kernel
theorem dl_1131 : decode code 1131 = .ok (.iconst 1, 1) := by decide +kernel
theorem dl_1132 : decode code 1132 = .ok (.iadd, 1) := by decide +kernel
theorem dl_1133 : decode code 1133 = .ok (.iaload, 1) := by decide +kernel
theorem dl_1134 : decode code 1134 = .ok (.aload_n 0, 1) := by decide +kernel
theorem dl_1135 : decode code 1135 = .ok (.iload 4, 2) := by decide +kernel
theorem dl_1137 : decode code 1137 = .ok (.iconst 2, 1) := by decide +kernel
theorem dl_1138 : decode code 1138 = .ok (.iadd, 1) := by decide +kernel
theorem dl_1139 : decode code 1139 = .ok (.iaload, 1) := by decide +kernel
theorem dl_1140 : decode code 1140 = .ok (.aload_n 0, 1) := by decide +kernel
theorem dl_1141 : decode code 1141 = .ok (.iload 4, 2) := by decide +kernel
theorem dl_1143 : decode code 1143 = .ok (.iconst 3, 1) := by decide +kernel
theorem dl_1144 : decode code 1144 = .ok (.iadd, 1) := by decide +kernel
theorem dl_1145 : decode code 1145 = .ok (.iaload, 1) := by decide +kernel
theorem dl_1146 : decode code 1146 = .ok (.invokevirtual 141, 3) := by decide +kernel
theorem dl_1149 : decode code 1149 = .ok (.aload_n 2, 1) := by decide +kernel
theorem dl_1150 : decode code 1150 = .ok (.aload_n 0, 1) := by decide +kernel
theorem dl_1151 : decode code 1151 = .ok (.iload 4, 2) := by decide +kernel
theorem dl_1153 : decode code 1153 = .ok (.iconst 1, 1) := by decide +kernel
theorem dl_1154 : decode code 1154 = .ok (.iadd, 1) := by decide +kernel
theorem dl_1155 : decode code 1155 = .ok (.iaload, 1) := by decide +kernel
theorem dl_1156 : decode code 1156 = .ok (.aload_n 0, 1) := by decide +kernel
theorem dl_1157 : decode code 1157 = .ok (.iload 4, 2) := by decide +kernel
theorem dl_1159 : decode code 1159 = .ok (.iconst 2, 1) := by decide +kernel
theorem dl_1160 : decode code 1160 = .ok (.iadd, 1) := by decide +kernel
theorem dl_1161 : decode code 1161 = .ok (.iaload, 1) := by decide +kernel
theorem dl_1162 : decode code 1162 = .ok (.aload_n 0, 1) := by decide +kernel
theorem dl_1163 : decode code 1163 = .ok (.iload 4, 2) := by decide +kernel
theorem dl_1165 : decode code 1165 = .ok (.iconst 3, 1) := by decide +kernel
theorem dl_1166 : decode code 1166 = .ok (.iadd, 1) := by decide +kernel
theorem dl_1167 : decode code 1167 = .ok (.iaload, 1) := by decide +kernel
theorem dl_1168 : decode code 1168 = .ok (.invokevirtual 144, 3) := by decide +kernel
theorem dl_1171 : decode code 1171 = .ok (.lcmp, 1) := by decide +kernel
theorem dl_1172 : decode code 1172 = .ok (.ifCond .eq 633, 3) := by decide +kernel
theorem dl_1175 : decode code 1175 = .ok (.iconst 0, 1) := by decide +kernel
theorem dl_1176 : decode code 1176 = .ok (.ireturn, 1) := by decide +kernel
theorem dl_1177 : decode code 1177 = .ok (.aload_n 1, 1) := by decide +kernel
theorem dl_1178 : decode code 1178 = .ok (.invokevirtual 145, 3) := by decide +kernel
theorem dl_1181 : decode code 1181 = .ok (.aload_n 2, 1) := by decide +kernel
theorem dl_1182 : decode code 1182 = .ok (.invokevirtual 148, 3) := by decide +kernel
theorem dl_1185 : decode code 1185 = .ok (.if_icmp .eq 620, 3) := by decide +kernel
theorem dl_1188 : decode code 1188 = .ok (.iconst 0, 1) := by decide +kernel
theorem dl_1189 : decode code 1189 = .ok (.ireturn, 1) := by decide +kernel
theorem dl_1190 : decode code 1190 = .ok (.aload_n 1, 1) := by decide +kernel
theorem dl_1191 : decode code 1191 = .ok (.aload_n 0, 1) := by decide +kernel
theorem dl_1192 : decode code 1192 = .ok (.iload 4, 2) := by decide +kernel
theorem dl_1194 : decode code 1194 = .ok (.iconst 1, 1) := by decide +kernel
theorem dl_1195 : decode code 1195 = .ok (.iadd, 1) := by decide +kernel
theorem dl_1196 : decode code 1196 = .ok (.iaload, 1) := by decide +kernel
theorem dl_1197 : decode code 1197 = .ok (.aload_n 0, 1) := by decide +kernel
theorem dl_1198 : decode code 1198 = .ok (.iload 4, 2) := by decide +kernel
theorem dl_1200 : decode code 1200 = .ok (.iconst 2, 1) := by decide +kernel
theorem dl_1201 : decode code 1201 = .ok (.iadd, 1) := by decide +kernel
theorem dl_1202 : decode code 1202 = .ok (.iaload, 1) := by decide +kernel
theorem dl_1203 : decode code 1203 = .ok (.invokevirtual 149, 3) := by decide +kernel
theorem dl_1206 : decode code 1206 = .ok (.aload_n 2, 1) := by decide +kernel
theorem dl_1207 : decode code 1207 = .ok (.aload_n 0, 1) := by decide +kernel
