/-! what stands where: L -/
theorem d_L_law_874 : decode code 874 = .ok (.istore 6, 2) := by decide +kernel
theorem d_L_law_876 : decode code 876 = .ok (.aload_n 2, 1) := by decide +kernel
theorem d_L_law_877 : decode code 877 = .ok (.invokevirtual 68, 3) := by decide +kernel
theorem d_L_law_880 : decode code 880 = .ok (.iload 5, 2) := by decide +kernel
theorem d_L_law_882 : decode code 882 = .ok (.if_icmp .eq 5, 3) := by decide +kernel
theorem d_L_law_885 : decode code 885 = .ok (.iconst 0, 1) := by decide +kernel
theorem d_L_law_886 : decode code 886 = .ok (.ireturn, 1) := by decide +kernel
theorem d_L_law_887 : decode code 887 = .ok (.iload 5, 2) := by decide +kernel
theorem d_L_law_889 : decode code 889 = .ok (.ifCond .ne 15, 3) := by decide +kernel
theorem d_L_law_892 : decode code 892 = .ok (.aload_n 3, 1) := by decide +kernel
theorem d_L_law_893 : decode code 893 = .ok (.iconst 0, 1) := by decide +kernel
theorem d_L_law_894 : decode code 894 = .ok (.laload, 1) := by decide +kernel
theorem d_L_law_895 : decode code 895 = .ok (.iload 6, 2) := by decide +kernel
theorem d_L_law_897 : decode code 897 = .ok (.i2l, 1) := by decide +kernel
theorem d_L_law_898 : decode code 898 = .ok (.lcmp, 1) := by decide +kernel
theorem d_L_law_899 : decode code 899 = .ok (.ifCond .eq 5, 3) := by decide +kernel
theorem d_L_law_902 : decode code 902 = .ok (.iconst 0, 1) := by decide +kernel
theorem d_L_law_903 : decode code 903 = .ok (.ireturn, 1) := by decide +kernel
theorem d_L_law_904 : decode code 904 = .ok (.goto 182, 3) := by decide +kernel
theorem d_L_law_907 : decode code 907 = .ok (.aload_n 1, 1) := by decide +kernel
theorem d_L_law_908 : decode code 908 = .ok (.aload_n 0, 1) := by decide +kernel
theorem d_L_law_909 : decode code 909 = .ok (.iload 4, 2) := by decide +kernel
theorem d_L_law_911 : decode code 911 = .ok (.iconst 1, 1) := by decide +kernel
theorem d_L_law_912 : decode code 912 = .ok (.iadd, 1) := by decide +kernel
theorem d_L_law_913 : decode code 913 = .ok (.iaload, 1) := by decide +kernel
theorem d_L_law_914 : decode code 914 = .ok (.aload_n 3, 1) := by decide +kernel
theorem d_L_law_915 : decode code 915 = .ok (.invokestatic 117, 3) := by decide +kernel
theorem d_L_law_918 : decode code 918 = .ok (.istore 5, 2) := by decide +kernel
theorem d_L_law_920 : decode code 920 = .ok (.aload_n 2, 1) := by decide +kernel
theorem d_L_law_921 : decode code 921 = .ok (.aload_n 0, 1) := by decide +kernel
theorem d_L_law_922 : decode code 922 = .ok (.iload 4, 2) := by decide +kernel
theorem d_L_law_924 : decode code 924 = .ok (.iconst 1, 1) := by decide +kernel
theorem d_L_law_925 : decode code 925 = .ok (.iadd, 1) := by decide +kernel
theorem d_L_law_926 : decode code 926 = .ok (.iaload, 1) := by decide +kernel
theorem d_L_law_927 : decode code 927 = .ok (.invokevirtual 119, 3) := by decide +kernel
theorem d_L_law_930 : decode code 930 = .ok (.istore 6, 2) := by decide +kernel
theorem d_L_law_932 : decode code 932 = .ok (.aload_n 2, 1) := by decide +kernel
theorem d_L_law_933 : decode code 933 = .ok (.invokevirtual 68, 3) := by decide +kernel
theorem d_L_law_936 : decode code 936 = .ok (.iload 5, 2) := by decide +kernel
theorem d_L_law_938 : decode code 938 = .ok (.if_icmp .eq 5, 3) := by decide +kernel
theorem d_L_law_941 : decode code 941 = .ok (.iconst 0, 1) := by decide +kernel
theorem d_L_law_942 : decode code 942 = .ok (.ireturn, 1) := by decide +kernel
theorem d_L_law_943 : decode code 943 = .ok (.iload 5, 2) := by decide +kernel
theorem d_L_law_945 : decode code 945 = .ok (.ifCond .ne 15, 3) := by decide +kernel
theorem d_L_law_948 : decode code 948 = .ok (.aload_n 3, 1) := by decide +kernel
theorem d_L_law_949 : decode code 949 = .ok (.iconst 0, 1) := by decide +kernel
theorem d_L_law_950 : decode code 950 = .ok (.laload, 1) := by decide +kernel
theorem d_L_law_951 : decode code 951 = .ok (.iload 6, 2) := by decide +kernel
theorem d_L_law_953 : decode code 953 = .ok (.i2l, 1) := by decide +kernel
theorem d_L_law_954 : decode code 954 = .ok (.lcmp, 1) := by decide +kernel
theorem d_L_law_955 : decode code 955 = .ok (.ifCond .eq 5, 3) := by decide +kernel
theorem d_L_law_958 : decode code 958 = .ok (.iconst 0, 1) := by decide +kernel
theorem d_L_law_959 : decode code 959 = .ok (.ireturn, 1) := by decide +kernel
theorem d_L_law_960 : decode code 960 = .ok (.goto 126, 3) := by decide +kernel
theorem d_L_law_963 : decode code 963 = .ok (.aload_n 1, 1) := by decide +kernel
theorem d_L_law_964 : decode code 964 = .ok (.aload_n 0, 1) := by decide +kernel
theorem d_L_law_965 : decode code 965 = .ok (.iload 4, 2) := by decide +kernel
theorem d_L_law_967 : decode code 967 = .ok (.iconst 1, 1) := by decide +kernel
theorem d_L_law_968 : decode code 968 = .ok (.iadd, 1) := by decide +kernel
theorem d_L_law_969 : decode code 969 = .ok (.iaload, 1) := by decide +kernel
theorem d_L_law_970 : decode code 970 = .ok (.aload_n 3, 1) := by decide +kernel
theorem d_L_law_971 : decode code 971 = .ok (.invokestatic 120, 3) := by decide +kernel
theorem d_L_law_974 : decode code 974 = .ok (.istore 5, 2) := by decide +kernel
theorem d_L_law_976 : decode code 976 = .ok (.aload_n 2, 1) := by decide +kernel
theorem d_L_law_977 : decode code 977 = .ok (.aload_n 0, 1) := by decide +kernel
theorem d_L_law_978 : decode code 978 = .ok (.iload 4, 2) := by decide +kernel
theorem d_L_law_980 : decode code 980 = .ok (.iconst 1, 1) := by decide +kernel
theorem d_L_law_981 : decode code 981 = .ok (.iadd, 1) := by decide +kernel
theorem d_L_law_982 : decode code 982 = .ok (.iaload, 1) := by decide +kernel
theorem d_L_law_983 : decode code 983 = .ok (.invokevirtual 122, 3) := by decide +kernel
theorem d_L_law_986 : decode code 986 = .ok (.istore 6, 2) := by decide +kernel
theorem d_L_law_988 : decode code 988 = .ok (.aload_n 2, 1) := by decide +kernel
theorem d_L_law_989 : decode code 989 = .ok (.invokevirtual 68, 3) := by decide +kernel
theorem d_L_law_992 : decode code 992 = .ok (.iload 5, 2) := by decide +kernel
theorem d_L_law_994 : decode code 994 = .ok (.if_icmp .eq 5, 3) := by decide +kernel
theorem d_L_law_997 : decode code 997 = .ok (.iconst 0, 1) := by decide +kernel
theorem d_L_law_998 : decode code 998 = .ok (.ireturn, 1) := by decide +kernel
theorem d_L_law_999 : decode code 999 = .ok (.iload 5, 2) := by decide +kernel
theorem d_L_law_1001 : decode code 1001 = .ok (.ifCond .ne 15, 3) := by decide +kernel
theorem d_L_law_1004 : decode code 1004 = .ok (.aload_n 3, 1) := by decide +kernel
theorem d_L_law_1005 : decode code 1005 = .ok (.iconst 0, 1) := by decide +kernel
theorem d_L_law_1006 : decode code 1006 = .ok (.laload, 1) := by decide +kernel
theorem d_L_law_1007 : decode code 1007 = .ok (.iload 6, 2) := by decide +kernel
theorem d_L_law_1009 : decode code 1009 = .ok (.i2l, 1) := by decide +kernel
theorem d_L_law_1010 : decode code 1010 = .ok (.lcmp, 1) := by decide +kernel
theorem d_L_law_1011 : decode code 1011 = .ok (.ifCond .eq 5, 3) := by decide +kernel
theorem d_L_law_1014 : decode code 1014 = .ok (.iconst 0, 1) := by decide +kernel
theorem d_L_law_1015 : decode code 1015 = .ok (.ireturn, 1) := by decide +kernel
theorem d_L_law_1016 : decode code 1016 = .ok (.goto 70, 3) := by decide +kernel
theorem d_L_law_1019 : decode code 1019 = .ok (.aload_n 1, 1) := by decide +kernel
theorem d_L_law_1020 : decode code 1020 = .ok (.aload_n 0, 1) := by decide +kernel
theorem d_L_law_1021 : decode code 1021 = .ok (.iload 4, 2) := by decide +kernel
theorem d_L_law_1023 : decode code 1023 = .ok (.iconst 1, 1) := by decide +kernel
theorem d_L_law_1024 : decode code 1024 = .ok (.iadd, 1) := by decide +kernel
theorem d_L_law_1025 : decode code 1025 = .ok (.iaload, 1) := by decide +kernel
theorem d_L_law_1026 : decode code 1026 = .ok (.ifCond .eq 7, 3) := by decide +kernel
theorem d_L_law_1029 : decode code 1029 = .ok (.iconst 1, 1) := by decide +kernel
theorem d_L_law_1030 : decode code 1030 = .ok (.goto 4, 3) := by decide +kernel
theorem d_L_law_1033 : decode code 1033 = .ok (.iconst 0, 1) := by decide +kernel
theorem d_L_law_1034 : decode code 1034 = .ok (.invokevirtual 123, 3) := by decide +kernel
theorem d_L_law_1037 : decode code 1037 = .ok (.aload_n 2, 1) := by decide +kernel
theorem d_L_law_1038 : decode code 1038 = .ok (.aload_n 0, 1) := by decide +kernel
theorem d_L_law_1039 : decode code 1039 = .ok (.iload 4, 2) := by decide +kernel
theorem d_L_law_1041 : decode code 1041 = .ok (.iconst 1, 1) := by decide +kernel
theorem d_L_law_1042 : decode code 1042 = .ok (.iadd, 1) := by decide +kernel
theorem d_L_law_1043 : decode code 1043 = .ok (.iaload, 1) := by decide +kernel
theorem d_L_law_1044 : decode code 1044 = .ok (.ifCond .eq 7, 3) := by decide +kernel
theorem d_L_law_1047 : decode code 1047 = .ok (.iconst 1, 1) := by decide +kernel
theorem d_L_law_1048 : decode code 1048 = .ok (.goto 4, 3) := by decide +kernel
theorem d_L_law_1051 : decode code 1051 = .ok (.iconst 0, 1) := by decide +kernel
theorem d_L_law_1052 : decode code 1052 = .ok (.invokevirtual 127, 3) := by decide +kernel
theorem d_L_law_1055 : decode code 1055 = .ok (.if_icmp .eq 31, 3) := by decide +kernel
theorem d_L_law_1058 : decode code 1058 = .ok (.iconst 0, 1) := by decide +kernel
theorem d_L_law_1059 : decode code 1059 = .ok (.ireturn, 1) := by decide +kernel
theorem d_L_law_1060 : decode code 1060 = .ok (.aload_n 1, 1) := by decide +kernel
theorem d_L_law_1061 : decode code 1061 = .ok (.invokevirtual 128, 3) := by decide +kernel
theorem d_L_law_1064 : decode code 1064 = .ok (.aload_n 2, 1) := by decide +kernel
theorem d_L_law_1065 : decode code 1065 = .ok (.invokevirtual 131, 3) := by decide +kernel
theorem d_L_law_1068 : decode code 1068 = .ok (.if_icmp .eq 18, 3) := by decide +kernel
theorem d_L_law_1071 : decode code 1071 = .ok (.iconst 0, 1) := by decide +kernel
theorem d_L_law_1072 : decode code 1072 = .ok (.ireturn, 1) := by decide +kernel
theorem d_L_law_1073 : decode code 1073 = .ok (.aload_n 1, 1) := by decide +kernel
theorem d_L_law_1074 : decode code 1074 = .ok (.invokevirtual 132, 3) := by decide +kernel
theorem d_L_law_1077 : decode code 1077 = .ok (.aload_n 2, 1) := by decide +kernel
theorem d_L_law_1078 : decode code 1078 = .ok (.invokevirtual 135, 3) := by decide +kernel
theorem d_L_law_1081 : decode code 1081 = .ok (.if_icmp .eq 5, 3) := by decide +kernel
theorem d_L_law_1084 : decode code 1084 = .ok (.iconst 0, 1) := by decide +kernel
theorem d_L_law_1085 : decode code 1085 = .ok (.ireturn, 1) := by decide +kernel
theorem d_L_law_1086 : decode code 1086 = .ok (.iinc 4 4, 3) := by decide +kernel
theorem d_L_law_1089 : decode code 1089 = .ok (.goto (-1066), 3) := by decide +kernel
theorem d_L_law_1092 : decode code 1092 = .ok (.iconst 1, 1) := by decide +kernel
theorem d_L_law_1093 : decode code 1093 = .ok (.ireturn, 1) := by decide +kernel
