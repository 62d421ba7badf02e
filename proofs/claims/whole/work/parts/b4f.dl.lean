/-! the law, decoded: 916 and on -/
theorem dl_916 : decode code 916 = .ok (.iload 4, 2) := by decide +kernel
theorem dl_918 : decode code 918 = .ok (.iconst 1, 1) := by decide +kernel
theorem dl_919 : decode code 919 = .ok (.iadd, 1) := by decide +kernel
theorem dl_920 : decode code 920 = .ok (.iaload, 1) := by decide +kernel
theorem dl_921 : decode code 921 = .ok (.invokevirtual 105, 3) := by decide +kernel
theorem dl_924 : decode code 924 = .ok (.aload_n 2, 1) := by decide +kernel
theorem dl_925 : decode code 925 = .ok (.aload_n 0, 1) := by decide +kernel
theorem dl_926 : decode code 926 = .ok (.iload 4, 2) := by decide +kernel
theorem dl_928 : decode code 928 = .ok (.iconst 1, 1) := by decide +kernel
theorem dl_929 : decode code 929 = .ok (.iadd, 1) := by decide +kernel
theorem dl_930 : decode code 930 = .ok (.iaload, 1) := by decide +kernel
theorem dl_931 : decode code 931 = .ok (.invokevirtual 108, 3) := by decide +kernel
theorem dl_934 : decode code 934 = .ok (.if_icmp .eq 871, 3) := by decide +kernel
theorem dl_937 : decode code 937 = .ok (.iconst 0, 1) := by decide +kernel
theorem dl_938 : decode code 938 = .ok (.ireturn, 1) := by decide +kernel
theorem dl_939 : decode code 939 = .ok (.aload_n 1, 1) := by decide +kernel
theorem dl_940 : decode code 940 = .ok (.aload_n 0, 1) := by decide +kernel
theorem dl_941 : decode code 941 = .ok (.iload 4, 2) := by decide +kernel
theorem dl_943 : decode code 943 = .ok (.iconst 1, 1) := by decide +kernel
theorem dl_944 : decode code 944 = .ok (.iadd, 1) := by decide +kernel
theorem dl_945 : decode code 945 = .ok (.iaload, 1) := by decide +kernel
theorem dl_946 : decode code 946 = .ok (.invokevirtual 109, 3) := by decide +kernel
theorem dl_949 : decode code 949 = .ok (.aload_n 2, 1) := by decide +kernel
theorem dl_950 : decode code 950 = .ok (.aload_n 0, 1) := by decide +kernel
theorem dl_951 : decode code 951 = .ok (.iload 4, 2) := by decide +kernel
theorem dl_953 : decode code 953 = .ok (.iconst 1, 1) := by decide +kernel
theorem dl_954 : decode code 954 = .ok (.iadd, 1) := by decide +kernel
theorem dl_955 : decode code 955 = .ok (.iaload, 1) := by decide +kernel
theorem dl_956 : decode code 956 = .ok (.invokevirtual 112, 3) := by decide +kernel
theorem dl_959 : decode code 959 = .ok (.if_icmp .eq 846, 3) := by decide +kernel
theorem dl_962 : decode code 962 = .ok (.iconst 0, 1) := by decide +kernel
theorem dl_963 : decode code 963 = .ok (.ireturn, 1) := by decide +kernel
theorem dl_964 : decode code 964 = .ok (.aload_n 1, 1) := by decide +kernel
theorem dl_965 : decode code 965 = .ok (.aload_n 0, 1) := by decide +kernel
theorem dl_966 : decode code 966 = .ok (.iload 4, 2) := by decide +kernel
theorem dl_968 : decode code 968 = .ok (.iconst 1, 1) := by decide +kernel
theorem dl_969 : decode code 969 = .ok (.iadd, 1) := by decide +kernel
theorem dl_970 : decode code 970 = .ok (.iaload, 1) := by decide +kernel
theorem dl_971 : decode code 971 = .ok (.aload_n 0, 1) := by decide +kernel
theorem dl_972 : decode code 972 = .ok (.iload 4, 2) := by decide +kernel
theorem dl_974 : decode code 974 = .ok (.iconst 2, 1) := by decide +kernel
theorem dl_975 : decode code 975 = .ok (.iadd, 1) := by decide +kernel
theorem dl_976 : decode code 976 = .ok (.iaload, 1) := by decide +kernel
theorem dl_977 : decode code 977 = .ok (.aload_n 0, 1) := by decide +kernel
theorem dl_978 : decode code 978 = .ok (.iload 4, 2) := by decide +kernel
theorem dl_980 : decode code 980 = .ok (.iconst 3, 1) := by decide +kernel
theorem dl_981 : decode code 981 = .ok (.iadd, 1) := by decide +kernel
theorem dl_982 : decode code 982 = .ok (.iaload, 1) := by decide +kernel
theorem dl_983 : decode code 983 = .ok (.invokevirtual 113, 3) := by decide +kernel
theorem dl_986 : decode code 986 = .ok (.aload_n 2, 1) := by decide +kernel
theorem dl_987 : decode code 987 = .ok (.aload_n 0, 1) := by decide +kernel
theorem dl_988 : decode code 988 = .ok (.iload 4, 2) := by decide +kernel
theorem dl_990 : decode code 990 = .ok (.iconst 1, 1) := by decide +kernel
theorem dl_991 : decode code 991 = .ok (.iadd, 1) := by decide +kernel
theorem dl_992 : decode code 992 = .ok (.iaload, 1) := by decide +kernel
theorem dl_993 : decode code 993 = .ok (.aload_n 0, 1) := by decide +kernel
theorem dl_994 : decode code 994 = .ok (.iload 4, 2) := by decide +kernel
theorem dl_996 : decode code 996 = .ok (.iconst 2, 1) := by decide +kernel
theorem dl_997 : decode code 997 = .ok (.iadd, 1) := by decide +kernel
theorem dl_998 : decode code 998 = .ok (.iaload, 1) := by decide +kernel
theorem dl_999 : decode code 999 = .ok (.aload_n 0, 1) := by decide +kernel
theorem dl_1000 : decode code 1000 = .ok (.iload 4, 2) := by decide +kernel
theorem dl_1002 : decode code 1002 = .ok (.iconst 3, 1) := by decide +kernel
theorem dl_1003 : decode code 1003 = .ok (.iadd, 1) := by decide +kernel
theorem dl_1004 : decode code 1004 = .ok (.iaload, 1) := by decide +kernel
theorem dl_1005 : decode code 1005 = .ok (.invokevirtual 116, 3) := by decide +kernel
theorem dl_1008 : decode code 1008 = .ok (.if_icmp .eq 797, 3) := by decide +kernel
theorem dl_1011 : decode code 1011 = .ok (.iconst 0, 1) := by decide +kernel
theorem dl_1012 : decode code 1012 = .ok (.ireturn, 1) := by decide +kernel
theorem dl_1013 : decode code 1013 = .ok (.aload_n 1, 1) := by decide +kernel
theorem dl_1014 : decode code 1014 = .ok (.invokevirtual 117, 3) := by decide +kernel
theorem dl_1017 : decode code 1017 = .ok (.aload_n 2, 1) := by decide +kernel
theorem dl_1018 : decode code 1018 = .ok (.invokevirtual 120, 3) := by decide +kernel
theorem dl_1021 : decode code 1021 = .ok (.if_icmp .eq 784, 3) := by decide +kernel
theorem dl_1024 : decode code 1024 = .ok (.iconst 0, 1) := by decide +kernel
theorem dl_1025 : decode code 1025 = .ok (.ireturn, 1) := by decide +kernel
theorem dl_1026 : decode code 1026 = .ok (.aload_n 1, 1) := by decide +kernel
theorem dl_1027 : decode code 1027 = .ok (.invokevirtual 121, 3) := by decide +kernel
theorem dl_1030 : decode code 1030 = .ok (.aload_n 2, 1) := by decide +kernel
theorem dl_1031 : decode code 1031 = .ok (.invokevirtual 124, 3) := by decide +kernel
theorem dl_1034 : decode code 1034 = .ok (.if_icmp .eq 771, 3) := by decide +kernel
theorem dl_1037 : decode code 1037 = .ok (.iconst 0, 1) := by decide +kernel
theorem dl_1038 : decode code 1038 = .ok (.ireturn, 1) := by decide +kernel
theorem dl_1039 : decode code 1039 = .ok (.aload_n 1, 1) := by decide +kernel
theorem dl_1040 : decode code 1040 = .ok (.aload_n 0, 1) := by decide +kernel
theorem dl_1041 : decode code 1041 = .ok (.iload 4, 2) := by decide +kernel
theorem dl_1043 : decode code 1043 = .ok (.iconst 1, 1) := by decide +kernel
theorem dl_1044 : decode code 1044 = .ok (.iadd, 1) := by decide +kernel
theorem dl_1045 : decode code 1045 = .ok (.iaload, 1) := by decide +kernel
theorem dl_1046 : decode code 1046 = .ok (.invokevirtual 125, 3) := by decide +kernel
theorem dl_1049 : decode code 1049 = .ok (.aload_n 2, 1) := by decide +kernel
theorem dl_1050 : decode code 1050 = .ok (.aload_n 0, 1) := by decide +kernel
theorem dl_1051 : decode code 1051 = .ok (.iload 4, 2) := by decide +kernel
theorem dl_1053 : decode code 1053 = .ok (.iconst 1, 1) := by decide +kernel
theorem dl_1054 : decode code 1054 = .ok (.iadd, 1) := by decide +kernel
theorem dl_1055 : decode code 1055 = .ok (.iaload, 1) := by decide +kernel
theorem dl_1056 : decode code 1056 = .ok (.invokevirtual 128, 3) := by decide +kernel
theorem dl_1059 : decode code 1059 = .ok (.if_icmp .eq 746, 3) := by decide +kernel
theorem dl_1062 : decode code 1062 = .ok (.iconst 0, 1) := by decide +kernel
theorem dl_1063 : decode code 1063 = .ok (.ireturn, 1) := by decide +kernel
