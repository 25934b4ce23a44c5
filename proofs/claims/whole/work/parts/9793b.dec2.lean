/-! the law, run by run: printed by wip/whole/gen_law.py -/
theorem d336_823 : decode code 823 = .ok (.iload 4, 2) := by decide +kernel
theorem d336_825 : decode code 825 = .ok (.iconst 1, 1) := by decide +kernel
theorem d336_826 : decode code 826 = .ok (.iadd, 1) := by decide +kernel
theorem d336_827 : decode code 827 = .ok (.iaload, 1) := by decide +kernel
theorem d336_828 : decode code 828 = .ok (.aload_n 0, 1) := by decide +kernel
theorem d336_829 : decode code 829 = .ok (.iload 4, 2) := by decide +kernel
theorem d336_831 : decode code 831 = .ok (.iconst 2, 1) := by decide +kernel
theorem d336_832 : decode code 832 = .ok (.iadd, 1) := by decide +kernel
theorem d336_833 : decode code 833 = .ok (.iaload, 1) := by decide +kernel
theorem d336_834 : decode code 834 = .ok (.aload_n 0, 1) := by decide +kernel
theorem d336_835 : decode code 835 = .ok (.iload 4, 2) := by decide +kernel
theorem d336_837 : decode code 837 = .ok (.iconst 3, 1) := by decide +kernel
theorem d336_838 : decode code 838 = .ok (.iadd, 1) := by decide +kernel
theorem d336_839 : decode code 839 = .ok (.iaload, 1) := by decide +kernel
theorem d336_840 : decode code 840 = .ok (.aload_n 0, 1) := by decide +kernel
theorem d336_841 : decode code 841 = .ok (.iload 4, 2) := by decide +kernel
theorem d336_843 : decode code 843 = .ok (.iconst 4, 1) := by decide +kernel
theorem d336_844 : decode code 844 = .ok (.iadd, 1) := by decide +kernel
theorem d336_845 : decode code 845 = .ok (.iaload, 1) := by decide +kernel
theorem d336_846 : decode code 846 = .ok (.invokevirtual 140, 3) := by decide +kernel
theorem d336_849 : decode code 849 = .ok (.istore 6, 2) := by decide +kernel
theorem d336_851 : decode code 851 = .ok (.aload_n 2, 1) := by decide +kernel
theorem d336_852 : decode code 852 = .ok (.invokevirtual 105, 3) := by decide +kernel
theorem d336_855 : decode code 855 = .ok (.iload 5, 2) := by decide +kernel
theorem d336_857 : decode code 857 = .ok (.if_icmp .eq 5, 3) := by decide +kernel
theorem d336_860 : decode code 860 = .ok (.iconst 0, 1) := by decide +kernel
theorem d336_861 : decode code 861 = .ok (.ireturn, 1) := by decide +kernel
theorem d336_862 : decode code 862 = .ok (.iload 5, 2) := by decide +kernel
theorem d336_864 : decode code 864 = .ok (.ifCond .ne 15, 3) := by decide +kernel
theorem d336_867 : decode code 867 = .ok (.aload_n 3, 1) := by decide +kernel
theorem d336_868 : decode code 868 = .ok (.iconst 0, 1) := by decide +kernel
theorem d336_869 : decode code 869 = .ok (.laload, 1) := by decide +kernel
theorem d336_870 : decode code 870 = .ok (.iload 6, 2) := by decide +kernel
theorem d336_872 : decode code 872 = .ok (.i2l, 1) := by decide +kernel
theorem d336_873 : decode code 873 = .ok (.lcmp, 1) := by decide +kernel
theorem d336_874 : decode code 874 = .ok (.ifCond .eq 5, 3) := by decide +kernel
theorem d336_877 : decode code 877 = .ok (.iconst 0, 1) := by decide +kernel
theorem d336_878 : decode code 878 = .ok (.ireturn, 1) := by decide +kernel
theorem d336_879 : decode code 879 = .ok (.goto 1257, 3) := by decide +kernel
theorem d336_882 : decode code 882 = .ok (.aload_n 1, 1) := by decide +kernel
theorem d336_883 : decode code 883 = .ok (.invokevirtual 141, 3) := by decide +kernel
theorem d336_886 : decode code 886 = .ok (.aload_n 2, 1) := by decide +kernel
theorem d336_887 : decode code 887 = .ok (.invokevirtual 144, 3) := by decide +kernel
theorem d336_890 : decode code 890 = .ok (.if_icmp .eq 1246, 3) := by decide +kernel
theorem d336_893 : decode code 893 = .ok (.iconst 0, 1) := by decide +kernel
theorem d336_894 : decode code 894 = .ok (.ireturn, 1) := by decide +kernel
theorem d336_895 : decode code 895 = .ok (.aload_n 1, 1) := by decide +kernel
theorem d336_896 : decode code 896 = .ok (.aload_n 0, 1) := by decide +kernel
theorem d336_897 : decode code 897 = .ok (.iload 4, 2) := by decide +kernel
theorem d336_899 : decode code 899 = .ok (.iconst 1, 1) := by decide +kernel
theorem d336_900 : decode code 900 = .ok (.iadd, 1) := by decide +kernel
theorem d336_901 : decode code 901 = .ok (.iaload, 1) := by decide +kernel
theorem d336_902 : decode code 902 = .ok (.aload_n 0, 1) := by decide +kernel
theorem d336_903 : decode code 903 = .ok (.iload 4, 2) := by decide +kernel
theorem d336_905 : decode code 905 = .ok (.iconst 2, 1) := by decide +kernel
theorem d336_906 : decode code 906 = .ok (.iadd, 1) := by decide +kernel
theorem d336_907 : decode code 907 = .ok (.iaload, 1) := by decide +kernel
theorem d336_908 : decode code 908 = .ok (.aload_n 0, 1) := by decide +kernel
theorem d336_909 : decode code 909 = .ok (.iload 4, 2) := by decide +kernel
theorem d336_911 : decode code 911 = .ok (.iconst 3, 1) := by decide +kernel
theorem d336_912 : decode code 912 = .ok (.iadd, 1) := by decide +kernel
theorem d336_913 : decode code 913 = .ok (.iaload, 1) := by decide +kernel
theorem d336_914 : decode code 914 = .ok (.aload_n 0, 1) := by decide +kernel
theorem d336_915 : decode code 915 = .ok (.iload 4, 2) := by decide +kernel
theorem d336_917 : decode code 917 = .ok (.iconst 4, 1) := by decide +kernel
theorem d336_918 : decode code 918 = .ok (.iadd, 1) := by decide +kernel
theorem d336_919 : decode code 919 = .ok (.iaload, 1) := by decide +kernel
theorem d336_920 : decode code 920 = .ok (.aload_n 3, 1) := by decide +kernel
theorem d336_921 : decode code 921 = .ok (.invokestatic 145, 3) := by decide +kernel
theorem d336_924 : decode code 924 = .ok (.istore 5, 2) := by decide +kernel
theorem d336_926 : decode code 926 = .ok (.aload_n 2, 1) := by decide +kernel
theorem d336_927 : decode code 927 = .ok (.aload_n 0, 1) := by decide +kernel
theorem d336_928 : decode code 928 = .ok (.iload 4, 2) := by decide +kernel
theorem d336_930 : decode code 930 = .ok (.iconst 1, 1) := by decide +kernel
theorem d336_931 : decode code 931 = .ok (.iadd, 1) := by decide +kernel
theorem d336_932 : decode code 932 = .ok (.iaload, 1) := by decide +kernel
theorem d336_933 : decode code 933 = .ok (.aload_n 0, 1) := by decide +kernel
theorem d336_934 : decode code 934 = .ok (.iload 4, 2) := by decide +kernel
theorem d336_936 : decode code 936 = .ok (.iconst 2, 1) := by decide +kernel
theorem d336_937 : decode code 937 = .ok (.iadd, 1) := by decide +kernel
theorem d336_938 : decode code 938 = .ok (.iaload, 1) := by decide +kernel
theorem d336_939 : decode code 939 = .ok (.aload_n 0, 1) := by decide +kernel
theorem d336_940 : decode code 940 = .ok (.iload 4, 2) := by decide +kernel
theorem d336_942 : decode code 942 = .ok (.iconst 3, 1) := by decide +kernel
theorem d336_943 : decode code 943 = .ok (.iadd, 1) := by decide +kernel
theorem d336_944 : decode code 944 = .ok (.iaload, 1) := by decide +kernel
theorem d336_945 : decode code 945 = .ok (.aload_n 0, 1) := by decide +kernel
theorem d336_946 : decode code 946 = .ok (.iload 4, 2) := by decide +kernel
theorem d336_948 : decode code 948 = .ok (.iconst 4, 1) := by decide +kernel
theorem d336_949 : decode code 949 = .ok (.iadd, 1) := by decide +kernel
theorem d336_950 : decode code 950 = .ok (.iaload, 1) := by decide +kernel
theorem d336_951 : decode code 951 = .ok (.invokevirtual 147, 3) := by decide +kernel
theorem d336_954 : decode code 954 = .ok (.istore 6, 2) := by decide +kernel
theorem d336_956 : decode code 956 = .ok (.aload_n 2, 1) := by decide +kernel
theorem d336_957 : decode code 957 = .ok (.invokevirtual 105, 3) := by decide +kernel
theorem d336_960 : decode code 960 = .ok (.iload 5, 2) := by decide +kernel
theorem d336_962 : decode code 962 = .ok (.if_icmp .eq 5, 3) := by decide +kernel
theorem d336_965 : decode code 965 = .ok (.iconst 0, 1) := by decide +kernel
theorem d336_966 : decode code 966 = .ok (.ireturn, 1) := by decide +kernel
theorem d336_967 : decode code 967 = .ok (.iload 5, 2) := by decide +kernel
theorem d336_969 : decode code 969 = .ok (.ifCond .ne 15, 3) := by decide +kernel
theorem d336_972 : decode code 972 = .ok (.aload_n 3, 1) := by decide +kernel
theorem d336_973 : decode code 973 = .ok (.iconst 0, 1) := by decide +kernel
theorem d336_974 : decode code 974 = .ok (.laload, 1) := by decide +kernel
theorem d336_975 : decode code 975 = .ok (.iload 6, 2) := by decide +kernel
theorem d336_977 : decode code 977 = .ok (.i2l, 1) := by decide +kernel
theorem d336_978 : decode code 978 = .ok (.lcmp, 1) := by decide +kernel
theorem d336_979 : decode code 979 = .ok (.ifCond .eq 5, 3) := by decide +kernel
theorem d336_982 : decode code 982 = .ok (.iconst 0, 1) := by decide +kernel
theorem d336_983 : decode code 983 = .ok (.ireturn, 1) := by decide +kernel
theorem d336_984 : decode code 984 = .ok (.goto 1152, 3) := by decide +kernel
theorem d336_987 : decode code 987 = .ok (.aload_n 1, 1) := by decide +kernel
theorem d336_988 : decode code 988 = .ok (.aload_n 0, 1) := by decide +kernel
theorem d336_989 : decode code 989 = .ok (.iload 4, 2) := by decide +kernel
theorem d336_991 : decode code 991 = .ok (.iconst 1, 1) := by decide +kernel
theorem d336_992 : decode code 992 = .ok (.iadd, 1) := by decide +kernel
theorem d336_993 : decode code 993 = .ok (.iaload, 1) := by decide +kernel
theorem d336_994 : decode code 994 = .ok (.aload_n 0, 1) := by decide +kernel
theorem d336_995 : decode code 995 = .ok (.iload 4, 2) := by decide +kernel
theorem d336_997 : decode code 997 = .ok (.iconst 2, 1) := by decide +kernel
theorem d336_998 : decode code 998 = .ok (.iadd, 1) := by decide +kernel
theorem d336_999 : decode code 999 = .ok (.iaload, 1) := by decide +kernel
theorem d336_1000 : decode code 1000 = .ok (.aload_n 3, 1) := by decide +kernel
theorem d336_1001 : decode code 1001 = .ok (.invokestatic 148, 3) := by decide +kernel
theorem d336_1004 : decode code 1004 = .ok (.istore 5, 2) := by decide +kernel
theorem d336_1006 : decode code 1006 = .ok (.aload_n 2, 1) := by decide +kernel
theorem d336_1007 : decode code 1007 = .ok (.aload_n 0, 1) := by decide +kernel
theorem d336_1008 : decode code 1008 = .ok (.iload 4, 2) := by decide +kernel
theorem d336_1010 : decode code 1010 = .ok (.iconst 1, 1) := by decide +kernel
theorem d336_1011 : decode code 1011 = .ok (.iadd, 1) := by decide +kernel
theorem d336_1012 : decode code 1012 = .ok (.iaload, 1) := by decide +kernel
theorem d336_1013 : decode code 1013 = .ok (.aload_n 0, 1) := by decide +kernel
theorem d336_1014 : decode code 1014 = .ok (.iload 4, 2) := by decide +kernel
theorem d336_1016 : decode code 1016 = .ok (.iconst 2, 1) := by decide +kernel
theorem d336_1017 : decode code 1017 = .ok (.iadd, 1) := by decide +kernel
theorem d336_1018 : decode code 1018 = .ok (.iaload, 1) := by decide +kernel
theorem d336_1019 : decode code 1019 = .ok (.invokevirtual 150, 3) := by decide +kernel
theorem d336_1022 : decode code 1022 = .ok (.istore 6, 2) := by decide +kernel
theorem d336_1024 : decode code 1024 = .ok (.aload_n 2, 1) := by decide +kernel
theorem d336_1025 : decode code 1025 = .ok (.invokevirtual 105, 3) := by decide +kernel
theorem d336_1028 : decode code 1028 = .ok (.iload 5, 2) := by decide +kernel
theorem d336_1030 : decode code 1030 = .ok (.if_icmp .eq 5, 3) := by decide +kernel
theorem d336_1033 : decode code 1033 = .ok (.iconst 0, 1) := by decide +kernel
theorem d336_1034 : decode code 1034 = .ok (.ireturn, 1) := by decide +kernel
theorem d336_1035 : decode code 1035 = .ok (.iload 5, 2) := by decide +kernel
theorem d336_1037 : decode code 1037 = .ok (.ifCond .ne 15, 3) := by decide +kernel
theorem d336_1040 : decode code 1040 = .ok (.aload_n 3, 1) := by decide +kernel
theorem d336_1041 : decode code 1041 = .ok (.iconst 0, 1) := by decide +kernel
theorem d336_1042 : decode code 1042 = .ok (.laload, 1) := by decide +kernel
theorem d336_1043 : decode code 1043 = .ok (.iload 6, 2) := by decide +kernel
theorem d336_1045 : decode code 1045 = .ok (.i2l, 1) := by decide +kernel
theorem d336_1046 : decode code 1046 = .ok (.lcmp, 1) := by decide +kernel
theorem d336_1047 : decode code 1047 = .ok (.ifCond .eq 5, 3) := by decide +kernel
theorem d336_1050 : decode code 1050 = .ok (.iconst 0, 1) := by decide +kernel
theorem d336_1051 : decode code 1051 = .ok (.ireturn, 1) := by decide +kernel
theorem d336_1052 : decode code 1052 = .ok (.goto 1084, 3) := by decide +kernel
theorem d336_1055 : decode code 1055 = .ok (.aload_n 1, 1) := by decide +kernel
theorem d336_1056 : decode code 1056 = .ok (.invokevirtual 151, 3) := by decide +kernel
theorem d336_1059 : decode code 1059 = .ok (.aload_n 2, 1) := by decide +kernel
theorem d336_1060 : decode code 1060 = .ok (.invokevirtual 154, 3) := by decide +kernel
theorem d336_1063 : decode code 1063 = .ok (.if_icmp .eq 1073, 3) := by decide +kernel
theorem d336_1066 : decode code 1066 = .ok (.iconst 0, 1) := by decide +kernel
theorem d336_1067 : decode code 1067 = .ok (.ireturn, 1) := by decide +kernel
theorem d336_1068 : decode code 1068 = .ok (.aload_n 1, 1) := by decide +kernel
theorem d336_1069 : decode code 1069 = .ok (.aload_n 0, 1) := by decide +kernel
theorem d336_1070 : decode code 1070 = .ok (.iload 4, 2) := by decide +kernel
theorem d336_1072 : decode code 1072 = .ok (.iconst 1, 1) := by decide +kernel
theorem d336_1073 : decode code 1073 = .ok (.iadd, 1) := by decide +kernel
theorem d336_1074 : decode code 1074 = .ok (.iaload, 1) := by decide +kernel
theorem d336_1075 : decode code 1075 = .ok (.aload_n 0, 1) := by decide +kernel
theorem d336_1076 : decode code 1076 = .ok (.iload 4, 2) := by decide +kernel
theorem d336_1078 : decode code 1078 = .ok (.iconst 2, 1) := by decide +kernel
theorem d336_1079 : decode code 1079 = .ok (.iadd, 1) := by decide +kernel
theorem d336_1080 : decode code 1080 = .ok (.iaload, 1) := by decide +kernel
theorem d336_1081 : decode code 1081 = .ok (.aload_n 3, 1) := by decide +kernel
theorem d336_1082 : decode code 1082 = .ok (.invokestatic 155, 3) := by decide +kernel
theorem d336_1085 : decode code 1085 = .ok (.istore 5, 2) := by decide +kernel
theorem d336_1087 : decode code 1087 = .ok (.aload_n 2, 1) := by decide +kernel
theorem d336_1088 : decode code 1088 = .ok (.aload_n 0, 1) := by decide +kernel
theorem d336_1089 : decode code 1089 = .ok (.iload 4, 2) := by decide +kernel
theorem d336_1091 : decode code 1091 = .ok (.iconst 1, 1) := by decide +kernel
theorem d336_1092 : decode code 1092 = .ok (.iadd, 1) := by decide +kernel
theorem d336_1093 : decode code 1093 = .ok (.iaload, 1) := by decide +kernel
theorem d336_1094 : decode code 1094 = .ok (.aload_n 0, 1) := by decide +kernel
theorem d336_1095 : decode code 1095 = .ok (.iload 4, 2) := by decide +kernel
theorem d336_1097 : decode code 1097 = .ok (.iconst 2, 1) := by decide +kernel
theorem d336_1098 : decode code 1098 = .ok (.iadd, 1) := by decide +kernel
theorem d336_1099 : decode code 1099 = .ok (.iaload, 1) := by decide +kernel
theorem d336_1100 : decode code 1100 = .ok (.invokevirtual 157, 3) := by decide +kernel
theorem d336_1103 : decode code 1103 = .ok (.istore 6, 2) := by decide +kernel
theorem d336_1105 : decode code 1105 = .ok (.aload_n 2, 1) := by decide +kernel
theorem d336_1106 : decode code 1106 = .ok (.invokevirtual 105, 3) := by decide +kernel
theorem d336_1109 : decode code 1109 = .ok (.iload 5, 2) := by decide +kernel
theorem d336_1111 : decode code 1111 = .ok (.if_icmp .eq 5, 3) := by decide +kernel
theorem d336_1114 : decode code 1114 = .ok (.iconst 0, 1) := by decide +kernel
theorem d336_1115 : decode code 1115 = .ok (.ireturn, 1) := by decide +kernel
theorem d336_1116 : decode code 1116 = .ok (.iload 5, 2) := by decide +kernel
theorem d336_1118 : decode code 1118 = .ok (.ifCond .ne 15, 3) := by decide +kernel
theorem d336_1121 : decode code 1121 = .ok (.aload_n 3, 1) := by decide +kernel
theorem d336_1122 : decode code 1122 = .ok (.iconst 0, 1) := by decide +kernel
theorem d336_1123 : decode code 1123 = .ok (.laload, 1) := by decide +kernel
theorem d336_1124 : decode code 1124 = .ok (.iload 6, 2) := by decide +kernel
theorem d336_1126 : decode code 1126 = .ok (.i2l, 1) := by decide +kernel
theorem d336_1127 : decode code 1127 = .ok (.lcmp, 1) := by decide +kernel
theorem d336_1128 : decode code 1128 = .ok (.ifCond .eq 5, 3) := by decide +kernel
theorem d336_1131 : decode code 1131 = .ok (.iconst 0, 1) := by decide +kernel
theorem d336_1132 : decode code 1132 = .ok (.ireturn, 1) := by decide +kernel
theorem d336_1133 : decode code 1133 = .ok (.goto 1003, 3) := by decide +kernel
theorem d336_1136 : decode code 1136 = .ok (.aload_n 1, 1) := by decide +kernel
theorem d336_1137 : decode code 1137 = .ok (.aload_n 0, 1) := by decide +kernel
theorem d336_1138 : decode code 1138 = .ok (.iload 4, 2) := by decide +kernel
theorem d336_1140 : decode code 1140 = .ok (.iconst 1, 1) := by decide +kernel
theorem d336_1141 : decode code 1141 = .ok (.iadd, 1) := by decide +kernel
theorem d336_1142 : decode code 1142 = .ok (.iaload, 1) := by decide +kernel
theorem d336_1143 : decode code 1143 = .ok (.aload_n 0, 1) := by decide +kernel
theorem d336_1144 : decode code 1144 = .ok (.iload 4, 2) := by decide +kernel
theorem d336_1146 : decode code 1146 = .ok (.iconst 2, 1) := by decide +kernel
theorem d336_1147 : decode code 1147 = .ok (.iadd, 1) := by decide +kernel
theorem d336_1148 : decode code 1148 = .ok (.iaload, 1) := by decide +kernel
theorem d336_1149 : decode code 1149 = .ok (.aload_n 3, 1) := by decide +kernel
theorem d336_1150 : decode code 1150 = .ok (.invokestatic 158, 3) := by decide +kernel
theorem d336_1153 : decode code 1153 = .ok (.istore 5, 2) := by decide +kernel
theorem d336_1155 : decode code 1155 = .ok (.aload_n 2, 1) := by decide +kernel
theorem d336_1156 : decode code 1156 = .ok (.aload_n 0, 1) := by decide +kernel
theorem d336_1157 : decode code 1157 = .ok (.iload 4, 2) := by decide +kernel
theorem d336_1159 : decode code 1159 = .ok (.iconst 1, 1) := by decide +kernel
theorem d336_1160 : decode code 1160 = .ok (.iadd, 1) := by decide +kernel
theorem d336_1161 : decode code 1161 = .ok (.iaload, 1) := by decide +kernel
theorem d336_1162 : decode code 1162 = .ok (.aload_n 0, 1) := by decide +kernel
theorem d336_1163 : decode code 1163 = .ok (.iload 4, 2) := by decide +kernel
theorem d336_1165 : decode code 1165 = .ok (.iconst 2, 1) := by decide +kernel
theorem d336_1166 : decode code 1166 = .ok (.iadd, 1) := by decide +kernel
theorem d336_1167 : decode code 1167 = .ok (.iaload, 1) := by decide +kernel
theorem d336_1168 : decode code 1168 = .ok (.invokevirtual 160, 3) := by decide +kernel
theorem d336_1171 : decode code 1171 = .ok (.istore 6, 2) := by decide +kernel
theorem d336_1173 : decode code 1173 = .ok (.aload_n 2, 1) := by decide +kernel
theorem d336_1174 : decode code 1174 = .ok (.invokevirtual 105, 3) := by decide +kernel
theorem d336_1177 : decode code 1177 = .ok (.iload 5, 2) := by decide +kernel
theorem d336_1179 : decode code 1179 = .ok (.if_icmp .eq 5, 3) := by decide +kernel
theorem d336_1182 : decode code 1182 = .ok (.iconst 0, 1) := by decide +kernel
theorem d336_1183 : decode code 1183 = .ok (.ireturn, 1) := by decide +kernel
theorem d336_1184 : decode code 1184 = .ok (.iload 5, 2) := by decide +kernel
theorem d336_1186 : decode code 1186 = .ok (.ifCond .ne 15, 3) := by decide +kernel
theorem d336_1189 : decode code 1189 = .ok (.aload_n 3, 1) := by decide +kernel
theorem d336_1190 : decode code 1190 = .ok (.iconst 0, 1) := by decide +kernel
theorem d336_1191 : decode code 1191 = .ok (.laload, 1) := by decide +kernel
theorem d336_1192 : decode code 1192 = .ok (.iload 6, 2) := by decide +kernel
theorem d336_1194 : decode code 1194 = .ok (.i2l, 1) := by decide +kernel
theorem d336_1195 : decode code 1195 = .ok (.lcmp, 1) := by decide +kernel
theorem d336_1196 : decode code 1196 = .ok (.ifCond .eq 5, 3) := by decide +kernel
theorem d336_1199 : decode code 1199 = .ok (.iconst 0, 1) := by decide +kernel
theorem d336_1200 : decode code 1200 = .ok (.ireturn, 1) := by decide +kernel
theorem d336_1201 : decode code 1201 = .ok (.goto 935, 3) := by decide +kernel
theorem d336_1204 : decode code 1204 = .ok (.aload_n 1, 1) := by decide +kernel
theorem d336_1205 : decode code 1205 = .ok (.invokevirtual 161, 3) := by decide +kernel
theorem d336_1208 : decode code 1208 = .ok (.aload_n 2, 1) := by decide +kernel
theorem d336_1209 : decode code 1209 = .ok (.invokevirtual 164, 3) := by decide +kernel
theorem d336_1212 : decode code 1212 = .ok (.if_icmp .eq 924, 3) := by decide +kernel
theorem d336_1215 : decode code 1215 = .ok (.iconst 0, 1) := by decide +kernel
theorem d336_1216 : decode code 1216 = .ok (.ireturn, 1) := by decide +kernel
theorem d336_1217 : decode code 1217 = .ok (.aload_n 1, 1) := by decide +kernel
theorem d336_1218 : decode code 1218 = .ok (.aload_n 0, 1) := by decide +kernel
theorem d336_1219 : decode code 1219 = .ok (.iload 4, 2) := by decide +kernel
theorem d336_1221 : decode code 1221 = .ok (.iconst 1, 1) := by decide +kernel
theorem d336_1222 : decode code 1222 = .ok (.iadd, 1) := by decide +kernel
theorem d336_1223 : decode code 1223 = .ok (.iaload, 1) := by decide +kernel
theorem d336_1224 : decode code 1224 = .ok (.aload_n 0, 1) := by decide +kernel
theorem d336_1225 : decode code 1225 = .ok (.iload 4, 2) := by decide +kernel
theorem d336_1227 : decode code 1227 = .ok (.iconst 2, 1) := by decide +kernel
theorem d336_1228 : decode code 1228 = .ok (.iadd, 1) := by decide +kernel
theorem d336_1229 : decode code 1229 = .ok (.iaload, 1) := by decide +kernel
theorem d336_1230 : decode code 1230 = .ok (.aload_n 3, 1) := by decide +kernel
theorem d336_1231 : decode code 1231 = .ok (.invokestatic 165, 3) := by decide +kernel
theorem d336_1234 : decode code 1234 = .ok (.istore 5, 2) := by decide +kernel
theorem d336_1236 : decode code 1236 = .ok (.aload_n 2, 1) := by decide +kernel
theorem d336_1237 : decode code 1237 = .ok (.aload_n 0, 1) := by decide +kernel
theorem d336_1238 : decode code 1238 = .ok (.iload 4, 2) := by decide +kernel
theorem d336_1240 : decode code 1240 = .ok (.iconst 1, 1) := by decide +kernel
theorem d336_1241 : decode code 1241 = .ok (.iadd, 1) := by decide +kernel
theorem d336_1242 : decode code 1242 = .ok (.iaload, 1) := by decide +kernel
theorem d336_1243 : decode code 1243 = .ok (.aload_n 0, 1) := by decide +kernel
theorem d336_1244 : decode code 1244 = .ok (.iload 4, 2) := by decide +kernel
theorem d336_1246 : decode code 1246 = .ok (.iconst 2, 1) := by decide +kernel
theorem d336_1247 : decode code 1247 = .ok (.iadd, 1) := by decide +kernel
theorem d336_1248 : decode code 1248 = .ok (.iaload, 1) := by decide +kernel
theorem d336_1249 : decode code 1249 = .ok (.invokevirtual 167, 3) := by decide +kernel
theorem d336_1252 : decode code 1252 = .ok (.istore 6, 2) := by decide +kernel
theorem d336_1254 : decode code 1254 = .ok (.aload_n 2, 1) := by decide +kernel
theorem d336_1255 : decode code 1255 = .ok (.invokevirtual 105, 3) := by decide +kernel
theorem d336_1258 : decode code 1258 = .ok (.iload 5, 2) := by decide +kernel
theorem d336_1260 : decode code 1260 = .ok (.if_icmp .eq 5, 3) := by decide +kernel
theorem d336_1263 : decode code 1263 = .ok (.iconst 0, 1) := by decide +kernel
theorem d336_1264 : decode code 1264 = .ok (.ireturn, 1) := by decide +kernel
theorem d336_1265 : decode code 1265 = .ok (.iload 5, 2) := by decide +kernel
theorem d336_1267 : decode code 1267 = .ok (.ifCond .ne 15, 3) := by decide +kernel
theorem d336_1270 : decode code 1270 = .ok (.aload_n 3, 1) := by decide +kernel
theorem d336_1271 : decode code 1271 = .ok (.iconst 0, 1) := by decide +kernel
theorem d336_1272 : decode code 1272 = .ok (.laload, 1) := by decide +kernel
theorem d336_1273 : decode code 1273 = .ok (.iload 6, 2) := by decide +kernel
theorem d336_1275 : decode code 1275 = .ok (.i2l, 1) := by decide +kernel
theorem d336_1276 : decode code 1276 = .ok (.lcmp, 1) := by decide +kernel
theorem d336_1277 : decode code 1277 = .ok (.ifCond .eq 5, 3) := by decide +kernel
theorem d336_1280 : decode code 1280 = .ok (.iconst 0, 1) := by decide +kernel
theorem d336_1281 : decode code 1281 = .ok (.ireturn, 1) := by decide +kernel
theorem d336_1282 : decode code 1282 = .ok (.goto 854, 3) := by decide +kernel
theorem d336_1285 : decode code 1285 = .ok (.aload_n 1, 1) := by decide +kernel
theorem d336_1286 : decode code 1286 = .ok (.invokevirtual 168, 3) := by decide +kernel
theorem d336_1289 : decode code 1289 = .ok (.aload_n 2, 1) := by decide +kernel
theorem d336_1290 : decode code 1290 = .ok (.invokevirtual 171, 3) := by decide +kernel
theorem d336_1293 : decode code 1293 = .ok (.if_icmp .eq 843, 3) := by decide +kernel
theorem d336_1296 : decode code 1296 = .ok (.iconst 0, 1) := by decide +kernel
theorem d336_1297 : decode code 1297 = .ok (.ireturn, 1) := by decide +kernel
theorem d336_1298 : decode code 1298 = .ok (.aload_n 1, 1) := by decide +kernel
theorem d336_1299 : decode code 1299 = .ok (.invokevirtual 172, 3) := by decide +kernel
theorem d336_1302 : decode code 1302 = .ok (.aload_n 2, 1) := by decide +kernel
theorem d336_1303 : decode code 1303 = .ok (.invokevirtual 175, 3) := by decide +kernel
theorem d336_1306 : decode code 1306 = .ok (.if_icmp .eq 830, 3) := by decide +kernel
theorem d336_1309 : decode code 1309 = .ok (.iconst 0, 1) := by decide +kernel
theorem d336_1310 : decode code 1310 = .ok (.ireturn, 1) := by decide +kernel
theorem d336_1311 : decode code 1311 = .ok (.aload_n 1, 1) := by decide +kernel
theorem d336_1312 : decode code 1312 = .ok (.aload_n 0, 1) := by decide +kernel
theorem d336_1313 : decode code 1313 = .ok (.iload 4, 2) := by decide +kernel
theorem d336_1315 : decode code 1315 = .ok (.iconst 1, 1) := by decide +kernel
theorem d336_1316 : decode code 1316 = .ok (.iadd, 1) := by decide +kernel
theorem d336_1317 : decode code 1317 = .ok (.iaload, 1) := by decide +kernel
theorem d336_1318 : decode code 1318 = .ok (.aload_n 3, 1) := by decide +kernel
theorem d336_1319 : decode code 1319 = .ok (.invokestatic 176, 3) := by decide +kernel
theorem d336_1322 : decode code 1322 = .ok (.istore 5, 2) := by decide +kernel
theorem d336_1324 : decode code 1324 = .ok (.aload_n 2, 1) := by decide +kernel
theorem d336_1325 : decode code 1325 = .ok (.aload_n 0, 1) := by decide +kernel
theorem d336_1326 : decode code 1326 = .ok (.iload 4, 2) := by decide +kernel
theorem d336_1328 : decode code 1328 = .ok (.iconst 1, 1) := by decide +kernel
theorem d336_1329 : decode code 1329 = .ok (.iadd, 1) := by decide +kernel
theorem d336_1330 : decode code 1330 = .ok (.iaload, 1) := by decide +kernel
theorem d336_1331 : decode code 1331 = .ok (.invokevirtual 178, 3) := by decide +kernel
theorem d336_1334 : decode code 1334 = .ok (.istore 6, 2) := by decide +kernel
theorem d336_1336 : decode code 1336 = .ok (.aload_n 2, 1) := by decide +kernel
theorem d336_1337 : decode code 1337 = .ok (.invokevirtual 105, 3) := by decide +kernel
theorem d336_1340 : decode code 1340 = .ok (.iload 5, 2) := by decide +kernel
theorem d336_1342 : decode code 1342 = .ok (.if_icmp .eq 5, 3) := by decide +kernel
theorem d336_1345 : decode code 1345 = .ok (.iconst 0, 1) := by decide +kernel
theorem d336_1346 : decode code 1346 = .ok (.ireturn, 1) := by decide +kernel
theorem d336_1347 : decode code 1347 = .ok (.iload 5, 2) := by decide +kernel
theorem d336_1349 : decode code 1349 = .ok (.ifCond .ne 15, 3) := by decide +kernel
theorem d336_1352 : decode code 1352 = .ok (.aload_n 3, 1) := by decide +kernel
theorem d336_1353 : decode code 1353 = .ok (.iconst 0, 1) := by decide +kernel
theorem d336_1354 : decode code 1354 = .ok (.laload, 1) := by decide +kernel
theorem d336_1355 : decode code 1355 = .ok (.iload 6, 2) := by decide +kernel
theorem d336_1357 : decode code 1357 = .ok (.i2l, 1) := by decide +kernel
theorem d336_1358 : decode code 1358 = .ok (.lcmp, 1) := by decide +kernel
theorem d336_1359 : decode code 1359 = .ok (.ifCond .eq 5, 3) := by decide +kernel
theorem d336_1362 : decode code 1362 = .ok (.iconst 0, 1) := by decide +kernel
theorem d336_1363 : decode code 1363 = .ok (.ireturn, 1) := by decide +kernel
theorem d336_1364 : decode code 1364 = .ok (.goto 772, 3) := by decide +kernel
theorem d336_1367 : decode code 1367 = .ok (.aload_n 1, 1) := by decide +kernel
theorem d336_1368 : decode code 1368 = .ok (.aload_n 0, 1) := by decide +kernel
theorem d336_1369 : decode code 1369 = .ok (.iload 4, 2) := by decide +kernel
theorem d336_1371 : decode code 1371 = .ok (.iconst 1, 1) := by decide +kernel
theorem d336_1372 : decode code 1372 = .ok (.iadd, 1) := by decide +kernel
theorem d336_1373 : decode code 1373 = .ok (.iaload, 1) := by decide +kernel
theorem d336_1374 : decode code 1374 = .ok (.aload_n 3, 1) := by decide +kernel
theorem d336_1375 : decode code 1375 = .ok (.invokestatic 179, 3) := by decide +kernel
theorem d336_1378 : decode code 1378 = .ok (.istore 5, 2) := by decide +kernel
theorem d336_1380 : decode code 1380 = .ok (.aload_n 2, 1) := by decide +kernel
theorem d336_1381 : decode code 1381 = .ok (.aload_n 0, 1) := by decide +kernel
theorem d336_1382 : decode code 1382 = .ok (.iload 4, 2) := by decide +kernel
theorem d336_1384 : decode code 1384 = .ok (.iconst 1, 1) := by decide +kernel
theorem d336_1385 : decode code 1385 = .ok (.iadd, 1) := by decide +kernel
theorem d336_1386 : decode code 1386 = .ok (.iaload, 1) := by decide +kernel
theorem d336_1387 : decode code 1387 = .ok (.invokevirtual 181, 3) := by decide +kernel
theorem d336_1390 : decode code 1390 = .ok (.istore 6, 2) := by decide +kernel
theorem d336_1392 : decode code 1392 = .ok (.aload_n 2, 1) := by decide +kernel
theorem d336_1393 : decode code 1393 = .ok (.invokevirtual 105, 3) := by decide +kernel
theorem d336_1396 : decode code 1396 = .ok (.iload 5, 2) := by decide +kernel
theorem d336_1398 : decode code 1398 = .ok (.if_icmp .eq 5, 3) := by decide +kernel
theorem d336_1401 : decode code 1401 = .ok (.iconst 0, 1) := by decide +kernel
theorem d336_1402 : decode code 1402 = .ok (.ireturn, 1) := by decide +kernel
theorem d336_1403 : decode code 1403 = .ok (.iload 5, 2) := by decide +kernel
theorem d336_1405 : decode code 1405 = .ok (.ifCond .ne 15, 3) := by decide +kernel
theorem d336_1408 : decode code 1408 = .ok (.aload_n 3, 1) := by decide +kernel
theorem d336_1409 : decode code 1409 = .ok (.iconst 0, 1) := by decide +kernel
theorem d336_1410 : decode code 1410 = .ok (.laload, 1) := by decide +kernel
theorem d336_1411 : decode code 1411 = .ok (.iload 6, 2) := by decide +kernel
theorem d336_1413 : decode code 1413 = .ok (.i2l, 1) := by decide +kernel
theorem d336_1414 : decode code 1414 = .ok (.lcmp, 1) := by decide +kernel
theorem d336_1415 : decode code 1415 = .ok (.ifCond .eq 5, 3) := by decide +kernel
theorem d336_1418 : decode code 1418 = .ok (.iconst 0, 1) := by decide +kernel
theorem d336_1419 : decode code 1419 = .ok (.ireturn, 1) := by decide +kernel
theorem d336_1420 : decode code 1420 = .ok (.goto 716, 3) := by decide +kernel
theorem d336_1423 : decode code 1423 = .ok (.aload_n 1, 1) := by decide +kernel
theorem d336_1424 : decode code 1424 = .ok (.aload_n 0, 1) := by decide +kernel
theorem d336_1425 : decode code 1425 = .ok (.iload 4, 2) := by decide +kernel
theorem d336_1427 : decode code 1427 = .ok (.iconst 1, 1) := by decide +kernel
theorem d336_1428 : decode code 1428 = .ok (.iadd, 1) := by decide +kernel
theorem d336_1429 : decode code 1429 = .ok (.iaload, 1) := by decide +kernel
theorem d336_1430 : decode code 1430 = .ok (.aload_n 3, 1) := by decide +kernel
theorem d336_1431 : decode code 1431 = .ok (.invokestatic 182, 3) := by decide +kernel
theorem d336_1434 : decode code 1434 = .ok (.istore 5, 2) := by decide +kernel
theorem d336_1436 : decode code 1436 = .ok (.aload_n 2, 1) := by decide +kernel
theorem d336_1437 : decode code 1437 = .ok (.aload_n 0, 1) := by decide +kernel
theorem d336_1438 : decode code 1438 = .ok (.iload 4, 2) := by decide +kernel
theorem d336_1440 : decode code 1440 = .ok (.iconst 1, 1) := by decide +kernel
theorem d336_1441 : decode code 1441 = .ok (.iadd, 1) := by decide +kernel
theorem d336_1442 : decode code 1442 = .ok (.iaload, 1) := by decide +kernel
theorem d336_1443 : decode code 1443 = .ok (.invokevirtual 184, 3) := by decide +kernel
theorem d336_1446 : decode code 1446 = .ok (.istore 6, 2) := by decide +kernel
theorem d336_1448 : decode code 1448 = .ok (.aload_n 2, 1) := by decide +kernel
theorem d336_1449 : decode code 1449 = .ok (.invokevirtual 105, 3) := by decide +kernel
theorem d336_1452 : decode code 1452 = .ok (.iload 5, 2) := by decide +kernel
theorem d336_1454 : decode code 1454 = .ok (.if_icmp .eq 5, 3) := by decide +kernel
theorem d336_1457 : decode code 1457 = .ok (.iconst 0, 1) := by decide +kernel
theorem d336_1458 : decode code 1458 = .ok (.ireturn, 1) := by decide +kernel
theorem d336_1459 : decode code 1459 = .ok (.iload 5, 2) := by decide +kernel
theorem d336_1461 : decode code 1461 = .ok (.ifCond .ne 15, 3) := by decide +kernel
theorem d336_1464 : decode code 1464 = .ok (.aload_n 3, 1) := by decide +kernel
theorem d336_1465 : decode code 1465 = .ok (.iconst 0, 1) := by decide +kernel
theorem d336_1466 : decode code 1466 = .ok (.laload, 1) := by decide +kernel
theorem d336_1467 : decode code 1467 = .ok (.iload 6, 2) := by decide +kernel
theorem d336_1469 : decode code 1469 = .ok (.i2l, 1) := by decide +kernel
theorem d336_1470 : decode code 1470 = .ok (.lcmp, 1) := by decide +kernel
theorem d336_1471 : decode code 1471 = .ok (.ifCond .eq 5, 3) := by decide +kernel
theorem d336_1474 : decode code 1474 = .ok (.iconst 0, 1) := by decide +kernel
theorem d336_1475 : decode code 1475 = .ok (.ireturn, 1) := by decide +kernel
