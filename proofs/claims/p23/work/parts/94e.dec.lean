/-! the law's code, row by row (4) -/
theorem tdl_950 : decode code 950 = .ok (.iaload, 1) := by decide +kernel
theorem tdl_951 : decode code 951 = .ok (.aload_n 0, 1) := by decide +kernel
theorem tdl_952 : decode code 952 = .ok (.iload_n 3, 1) := by decide +kernel
theorem tdl_953 : decode code 953 = .ok (.iconst 2, 1) := by decide +kernel
theorem tdl_954 : decode code 954 = .ok (.iadd, 1) := by decide +kernel
theorem tdl_955 : decode code 955 = .ok (.iaload, 1) := by decide +kernel
theorem tdl_956 : decode code 956 = .ok (.invokevirtual 107, 3) := by decide +kernel
theorem tdl_959 : decode code 959 = .ok (.aload_n 2, 1) := by decide +kernel
theorem tdl_960 : decode code 960 = .ok (.aload_n 0, 1) := by decide +kernel
theorem tdl_961 : decode code 961 = .ok (.iload_n 3, 1) := by decide +kernel
theorem tdl_962 : decode code 962 = .ok (.iconst 1, 1) := by decide +kernel
theorem tdl_963 : decode code 963 = .ok (.iadd, 1) := by decide +kernel
theorem tdl_964 : decode code 964 = .ok (.iaload, 1) := by decide +kernel
theorem tdl_965 : decode code 965 = .ok (.aload_n 0, 1) := by decide +kernel
theorem tdl_966 : decode code 966 = .ok (.iload_n 3, 1) := by decide +kernel
theorem tdl_967 : decode code 967 = .ok (.iconst 2, 1) := by decide +kernel
theorem tdl_968 : decode code 968 = .ok (.iadd, 1) := by decide +kernel
theorem tdl_969 : decode code 969 = .ok (.iaload, 1) := by decide +kernel
theorem tdl_970 : decode code 970 = .ok (.invokevirtual 110, 3) := by decide +kernel
theorem tdl_973 : decode code 973 = .ok (.if_icmp .eq 387, 3) := by decide +kernel
theorem tdl_976 : decode code 976 = .ok (.iconst 0, 1) := by decide +kernel
theorem tdl_977 : decode code 977 = .ok (.ireturn, 1) := by decide +kernel
theorem tdl_978 : decode code 978 = .ok (.aload_n 1, 1) := by decide +kernel
theorem tdl_979 : decode code 979 = .ok (.aload_n 0, 1) := by decide +kernel
theorem tdl_980 : decode code 980 = .ok (.iload_n 3, 1) := by decide +kernel
theorem tdl_981 : decode code 981 = .ok (.iconst 1, 1) := by decide +kernel
theorem tdl_982 : decode code 982 = .ok (.iadd, 1) := by decide +kernel
theorem tdl_983 : decode code 983 = .ok (.iaload, 1) := by decide +kernel
theorem tdl_984 : decode code 984 = .ok (.aload_n 0, 1) := by decide +kernel
theorem tdl_985 : decode code 985 = .ok (.iload_n 3, 1) := by decide +kernel
theorem tdl_986 : decode code 986 = .ok (.iconst 2, 1) := by decide +kernel
theorem tdl_987 : decode code 987 = .ok (.iadd, 1) := by decide +kernel
theorem tdl_988 : decode code 988 = .ok (.iaload, 1) := by decide +kernel
theorem tdl_989 : decode code 989 = .ok (.invokevirtual 111, 3) := by decide +kernel
theorem tdl_992 : decode code 992 = .ok (.pop, 1) := by decide +kernel
theorem tdl_993 : decode code 993 = .ok (.aload_n 2, 1) := by decide +kernel
theorem tdl_994 : decode code 994 = .ok (.aload_n 0, 1) := by decide +kernel
theorem tdl_995 : decode code 995 = .ok (.iload_n 3, 1) := by decide +kernel
theorem tdl_996 : decode code 996 = .ok (.iconst 1, 1) := by decide +kernel
theorem tdl_997 : decode code 997 = .ok (.iadd, 1) := by decide +kernel
theorem tdl_998 : decode code 998 = .ok (.iaload, 1) := by decide +kernel
theorem tdl_999 : decode code 999 = .ok (.aload_n 0, 1) := by decide +kernel
theorem tdl_1000 : decode code 1000 = .ok (.iload_n 3, 1) := by decide +kernel
theorem tdl_1001 : decode code 1001 = .ok (.iconst 2, 1) := by decide +kernel
theorem tdl_1002 : decode code 1002 = .ok (.iadd, 1) := by decide +kernel
theorem tdl_1003 : decode code 1003 = .ok (.iaload, 1) := by decide +kernel
theorem tdl_1004 : decode code 1004 = .ok (.invokevirtual 114, 3) := by decide +kernel
theorem tdl_1007 : decode code 1007 = .ok (.pop, 1) := by decide +kernel
theorem tdl_1008 : decode code 1008 = .ok (.goto 352, 3) := by decide +kernel
theorem tdl_1011 : decode code 1011 = .ok (.aload_n 1, 1) := by decide +kernel
theorem tdl_1012 : decode code 1012 = .ok (.aload_n 0, 1) := by decide +kernel
theorem tdl_1013 : decode code 1013 = .ok (.iload_n 3, 1) := by decide +kernel
theorem tdl_1014 : decode code 1014 = .ok (.iconst 1, 1) := by decide +kernel
theorem tdl_1015 : decode code 1015 = .ok (.iadd, 1) := by decide +kernel
theorem tdl_1016 : decode code 1016 = .ok (.iaload, 1) := by decide +kernel
theorem tdl_1017 : decode code 1017 = .ok (.aload_n 0, 1) := by decide +kernel
theorem tdl_1018 : decode code 1018 = .ok (.iload_n 3, 1) := by decide +kernel
theorem tdl_1019 : decode code 1019 = .ok (.iconst 2, 1) := by decide +kernel
theorem tdl_1020 : decode code 1020 = .ok (.iadd, 1) := by decide +kernel
theorem tdl_1021 : decode code 1021 = .ok (.iaload, 1) := by decide +kernel
theorem tdl_1022 : decode code 1022 = .ok (.aload_n 0, 1) := by decide +kernel
theorem tdl_1023 : decode code 1023 = .ok (.iload_n 3, 1) := by decide +kernel
theorem tdl_1024 : decode code 1024 = .ok (.iconst 3, 1) := by decide +kernel
theorem tdl_1025 : decode code 1025 = .ok (.iadd, 1) := by decide +kernel
theorem tdl_1026 : decode code 1026 = .ok (.iaload, 1) := by decide +kernel
theorem tdl_1027 : decode code 1027 = .ok (.aload_n 0, 1) := by decide +kernel
theorem tdl_1028 : decode code 1028 = .ok (.iload_n 3, 1) := by decide +kernel
theorem tdl_1029 : decode code 1029 = .ok (.iconst 4, 1) := by decide +kernel
theorem tdl_1030 : decode code 1030 = .ok (.iadd, 1) := by decide +kernel
theorem tdl_1031 : decode code 1031 = .ok (.iaload, 1) := by decide +kernel
theorem tdl_1032 : decode code 1032 = .ok (.aload_n 0, 1) := by decide +kernel
theorem tdl_1033 : decode code 1033 = .ok (.iload_n 3, 1) := by decide +kernel
theorem tdl_1034 : decode code 1034 = .ok (.iconst 5, 1) := by decide +kernel
theorem tdl_1035 : decode code 1035 = .ok (.iadd, 1) := by decide +kernel
theorem tdl_1036 : decode code 1036 = .ok (.iaload, 1) := by decide +kernel
theorem tdl_1037 : decode code 1037 = .ok (.invokevirtual 115, 3) := by decide +kernel
theorem tdl_1040 : decode code 1040 = .ok (.pop, 1) := by decide +kernel
theorem tdl_1041 : decode code 1041 = .ok (.aload_n 2, 1) := by decide +kernel
theorem tdl_1042 : decode code 1042 = .ok (.aload_n 0, 1) := by decide +kernel
theorem tdl_1043 : decode code 1043 = .ok (.iload_n 3, 1) := by decide +kernel
theorem tdl_1044 : decode code 1044 = .ok (.iconst 1, 1) := by decide +kernel
theorem tdl_1045 : decode code 1045 = .ok (.iadd, 1) := by decide +kernel
theorem tdl_1046 : decode code 1046 = .ok (.iaload, 1) := by decide +kernel
theorem tdl_1047 : decode code 1047 = .ok (.aload_n 0, 1) := by decide +kernel
theorem tdl_1048 : decode code 1048 = .ok (.iload_n 3, 1) := by decide +kernel
theorem tdl_1049 : decode code 1049 = .ok (.iconst 2, 1) := by decide +kernel
theorem tdl_1050 : decode code 1050 = .ok (.iadd, 1) := by decide +kernel
theorem tdl_1051 : decode code 1051 = .ok (.iaload, 1) := by decide +kernel
theorem tdl_1052 : decode code 1052 = .ok (.aload_n 0, 1) := by decide +kernel
theorem tdl_1053 : decode code 1053 = .ok (.iload_n 3, 1) := by decide +kernel
theorem tdl_1054 : decode code 1054 = .ok (.iconst 3, 1) := by decide +kernel
theorem tdl_1055 : decode code 1055 = .ok (.iadd, 1) := by decide +kernel
theorem tdl_1056 : decode code 1056 = .ok (.iaload, 1) := by decide +kernel
theorem tdl_1057 : decode code 1057 = .ok (.aload_n 0, 1) := by decide +kernel
theorem tdl_1058 : decode code 1058 = .ok (.iload_n 3, 1) := by decide +kernel
theorem tdl_1059 : decode code 1059 = .ok (.iconst 4, 1) := by decide +kernel
theorem tdl_1060 : decode code 1060 = .ok (.iadd, 1) := by decide +kernel
theorem tdl_1061 : decode code 1061 = .ok (.iaload, 1) := by decide +kernel
theorem tdl_1062 : decode code 1062 = .ok (.aload_n 0, 1) := by decide +kernel
theorem tdl_1063 : decode code 1063 = .ok (.iload_n 3, 1) := by decide +kernel
theorem tdl_1064 : decode code 1064 = .ok (.iconst 5, 1) := by decide +kernel
theorem tdl_1065 : decode code 1065 = .ok (.iadd, 1) := by decide +kernel
theorem tdl_1066 : decode code 1066 = .ok (.iaload, 1) := by decide +kernel
theorem tdl_1067 : decode code 1067 = .ok (.invokevirtual 119, 3) := by decide +kernel
theorem tdl_1070 : decode code 1070 = .ok (.pop, 1) := by decide +kernel
theorem tdl_1071 : decode code 1071 = .ok (.goto 289, 3) := by decide +kernel
theorem tdl_1074 : decode code 1074 = .ok (.aload_n 1, 1) := by decide +kernel
theorem tdl_1075 : decode code 1075 = .ok (.aload_n 0, 1) := by decide +kernel
theorem tdl_1076 : decode code 1076 = .ok (.iload_n 3, 1) := by decide +kernel
theorem tdl_1077 : decode code 1077 = .ok (.iconst 1, 1) := by decide +kernel
theorem tdl_1078 : decode code 1078 = .ok (.iadd, 1) := by decide +kernel
theorem tdl_1079 : decode code 1079 = .ok (.iaload, 1) := by decide +kernel
theorem tdl_1080 : decode code 1080 = .ok (.invokevirtual 120, 3) := by decide +kernel
theorem tdl_1083 : decode code 1083 = .ok (.pop, 1) := by decide +kernel
theorem tdl_1084 : decode code 1084 = .ok (.aload_n 2, 1) := by decide +kernel
theorem tdl_1085 : decode code 1085 = .ok (.aload_n 0, 1) := by decide +kernel
theorem tdl_1086 : decode code 1086 = .ok (.iload_n 3, 1) := by decide +kernel
theorem tdl_1087 : decode code 1087 = .ok (.iconst 1, 1) := by decide +kernel
theorem tdl_1088 : decode code 1088 = .ok (.iadd, 1) := by decide +kernel
theorem tdl_1089 : decode code 1089 = .ok (.iaload, 1) := by decide +kernel
theorem tdl_1090 : decode code 1090 = .ok (.invokevirtual 123, 3) := by decide +kernel
theorem tdl_1093 : decode code 1093 = .ok (.pop, 1) := by decide +kernel
theorem tdl_1094 : decode code 1094 = .ok (.goto 266, 3) := by decide +kernel
theorem tdl_1097 : decode code 1097 = .ok (.aload_n 1, 1) := by decide +kernel
theorem tdl_1098 : decode code 1098 = .ok (.invokevirtual 124, 3) := by decide +kernel
theorem tdl_1101 : decode code 1101 = .ok (.pop, 1) := by decide +kernel
theorem tdl_1102 : decode code 1102 = .ok (.aload_n 2, 1) := by decide +kernel
theorem tdl_1103 : decode code 1103 = .ok (.invokevirtual 127, 3) := by decide +kernel
theorem tdl_1106 : decode code 1106 = .ok (.pop, 1) := by decide +kernel
theorem tdl_1107 : decode code 1107 = .ok (.goto 253, 3) := by decide +kernel
theorem tdl_1110 : decode code 1110 = .ok (.aload_n 1, 1) := by decide +kernel
theorem tdl_1111 : decode code 1111 = .ok (.aload_n 0, 1) := by decide +kernel
theorem tdl_1112 : decode code 1112 = .ok (.iload_n 3, 1) := by decide +kernel
theorem tdl_1113 : decode code 1113 = .ok (.iconst 1, 1) := by decide +kernel
theorem tdl_1114 : decode code 1114 = .ok (.iadd, 1) := by decide +kernel
theorem tdl_1115 : decode code 1115 = .ok (.iaload, 1) := by decide +kernel
theorem tdl_1116 : decode code 1116 = .ok (.invokevirtual 128, 3) := by decide +kernel
theorem tdl_1119 : decode code 1119 = .ok (.pop, 1) := by decide +kernel
theorem tdl_1120 : decode code 1120 = .ok (.aload_n 2, 1) := by decide +kernel
theorem tdl_1121 : decode code 1121 = .ok (.aload_n 0, 1) := by decide +kernel
theorem tdl_1122 : decode code 1122 = .ok (.iload_n 3, 1) := by decide +kernel
theorem tdl_1123 : decode code 1123 = .ok (.iconst 1, 1) := by decide +kernel
theorem tdl_1124 : decode code 1124 = .ok (.iadd, 1) := by decide +kernel
theorem tdl_1125 : decode code 1125 = .ok (.iaload, 1) := by decide +kernel
theorem tdl_1126 : decode code 1126 = .ok (.invokevirtual 131, 3) := by decide +kernel
theorem tdl_1129 : decode code 1129 = .ok (.pop, 1) := by decide +kernel
theorem tdl_1130 : decode code 1130 = .ok (.goto 230, 3) := by decide +kernel
theorem tdl_1133 : decode code 1133 = .ok (.aload_n 1, 1) := by decide +kernel
theorem tdl_1134 : decode code 1134 = .ok (.aload_n 0, 1) := by decide +kernel
theorem tdl_1135 : decode code 1135 = .ok (.iload_n 3, 1) := by decide +kernel
theorem tdl_1136 : decode code 1136 = .ok (.iconst 1, 1) := by decide +kernel
theorem tdl_1137 : decode code 1137 = .ok (.iadd, 1) := by decide +kernel
theorem tdl_1138 : decode code 1138 = .ok (.iaload, 1) := by decide +kernel
theorem tdl_1139 : decode code 1139 = .ok (.invokevirtual 132, 3) := by decide +kernel
theorem tdl_1142 : decode code 1142 = .ok (.pop, 1) := by decide +kernel
theorem tdl_1143 : decode code 1143 = .ok (.aload_n 2, 1) := by decide +kernel
theorem tdl_1144 : decode code 1144 = .ok (.aload_n 0, 1) := by decide +kernel
theorem tdl_1145 : decode code 1145 = .ok (.iload_n 3, 1) := by decide +kernel
theorem tdl_1146 : decode code 1146 = .ok (.iconst 1, 1) := by decide +kernel
theorem tdl_1147 : decode code 1147 = .ok (.iadd, 1) := by decide +kernel
theorem tdl_1148 : decode code 1148 = .ok (.iaload, 1) := by decide +kernel
theorem tdl_1149 : decode code 1149 = .ok (.invokevirtual 135, 3) := by decide +kernel
