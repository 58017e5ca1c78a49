theorem dL_acts_865 : decode cL_acts 865 = .ok (.ifCond .ge 6, 3) := by decide +kernel
theorem dL_acts_868 : decode cL_acts 868 = .ok (.goto 15, 3) := by decide +kernel
theorem dL_acts_871 : decode cL_acts 871 = .ok (.aload 6, 2) := by decide +kernel
theorem dL_acts_873 : decode cL_acts 873 = .ok (.iload 13, 2) := by decide +kernel
theorem dL_acts_875 : decode cL_acts 875 = .ok (.dup2, 1) := by decide +kernel
theorem dL_acts_876 : decode cL_acts 876 = .ok (.iaload, 1) := by decide +kernel
theorem dL_acts_877 : decode cL_acts 877 = .ok (.iconst 1, 1) := by decide +kernel
theorem dL_acts_878 : decode cL_acts 878 = .ok (.iadd, 1) := by decide +kernel
theorem dL_acts_879 : decode cL_acts 879 = .ok (.iastore, 1) := by decide +kernel
theorem dL_acts_880 : decode cL_acts 880 = .ok (.iinc 7 1, 3) := by decide +kernel
theorem dL_acts_883 : decode cL_acts 883 = .ok (.iinc 12 1, 3) := by decide +kernel
theorem dL_acts_886 : decode cL_acts 886 = .ok (.goto (-37), 3) := by decide +kernel
theorem dL_acts_889 : decode cL_acts 889 = .ok (.goto (-91), 3) := by decide +kernel
theorem dL_acts_892 : decode cL_acts 892 = .ok (.iload 8, 2) := by decide +kernel
theorem dL_acts_894 : decode cL_acts 894 = .ok (.aload_n 1, 1) := by decide +kernel
theorem dL_acts_895 : decode cL_acts 895 = .ok (.getfield 66, 3) := by decide +kernel
theorem dL_acts_898 : decode cL_acts 898 = .ok (.if_icmp .ge 22, 3) := by decide +kernel
theorem dL_acts_901 : decode cL_acts 901 = .ok (.aload_n 1, 1) := by decide +kernel
theorem dL_acts_902 : decode cL_acts 902 = .ok (.iconst 0, 1) := by decide +kernel
theorem dL_acts_903 : decode cL_acts 903 = .ok (.putfield 365, 3) := by decide +kernel
theorem dL_acts_906 : decode cL_acts 906 = .ok (.aload_n 1, 1) := by decide +kernel
theorem dL_acts_907 : decode cL_acts 907 = .ok (.getfield 83, 3) := by decide +kernel
theorem dL_acts_910 : decode cL_acts 910 = .ok (.aload_n 1, 1) := by decide +kernel
theorem dL_acts_911 : decode cL_acts 911 = .ok (.invokevirtual 87, 3) := by decide +kernel
theorem dL_acts_914 : decode cL_acts 914 = .ok (.invokeinterface 91 2, 5) := by decide +kernel
theorem dL_acts_919 : decode cL_acts 919 = .ok (.pop, 1) := by decide +kernel
theorem dL_acts_920 : decode cL_acts 920 = .ok (.iconst 0, 1) := by decide +kernel
theorem dL_acts_921 : decode cL_acts 921 = .ok (.istore 9, 2) := by decide +kernel
theorem dL_acts_923 : decode cL_acts 923 = .ok (.iload 9, 2) := by decide +kernel
theorem dL_acts_925 : decode cL_acts 925 = .ok (.bipush 7, 2) := by decide +kernel
theorem dL_acts_927 : decode cL_acts 927 = .ok (.if_icmp .ge 37, 3) := by decide +kernel
theorem dL_acts_930 : decode cL_acts 930 = .ok (.aload_n 1, 1) := by decide +kernel
theorem dL_acts_931 : decode cL_acts 931 = .ok (.getfield 145, 3) := by decide +kernel
theorem dL_acts_934 : decode cL_acts 934 = .ok (.iload 9, 2) := by decide +kernel
theorem dL_acts_936 : decode cL_acts 936 = .ok (.sipush 9999, 3) := by decide +kernel
theorem dL_acts_939 : decode cL_acts 939 = .ok (.aload_n 1, 1) := by decide +kernel
theorem dL_acts_940 : decode cL_acts 940 = .ok (.getfield 145, 3) := by decide +kernel
theorem dL_acts_943 : decode cL_acts 943 = .ok (.iload 9, 2) := by decide +kernel
theorem dL_acts_945 : decode cL_acts 945 = .ok (.iaload, 1) := by decide +kernel
theorem dL_acts_946 : decode cL_acts 946 = .ok (.aload 6, 2) := by decide +kernel
theorem dL_acts_948 : decode cL_acts 948 = .ok (.iload 9, 2) := by decide +kernel
theorem dL_acts_950 : decode cL_acts 950 = .ok (.iaload, 1) := by decide +kernel
theorem dL_acts_951 : decode cL_acts 951 = .ok (.iconst 2, 1) := by decide +kernel
theorem dL_acts_952 : decode cL_acts 952 = .ok (.idiv, 1) := by decide +kernel
theorem dL_acts_953 : decode cL_acts 953 = .ok (.iadd, 1) := by decide +kernel
theorem dL_acts_954 : decode cL_acts 954 = .ok (.invokestatic 230, 3) := by decide +kernel
theorem dL_acts_957 : decode cL_acts 957 = .ok (.iastore, 1) := by decide +kernel
theorem dL_acts_958 : decode cL_acts 958 = .ok (.iinc 9 1, 3) := by decide +kernel
theorem dL_acts_961 : decode cL_acts 961 = .ok (.goto (-38), 3) := by decide +kernel
theorem dL_acts_964 : decode cL_acts 964 = .ok (.aload_n 1, 1) := by decide +kernel
theorem dL_acts_965 : decode cL_acts 965 = .ok (.aload_n 1, 1) := by decide +kernel
theorem dL_acts_966 : decode cL_acts 966 = .ok (.getfield 206, 3) := by decide +kernel
theorem dL_acts_969 : decode cL_acts 969 = .ok (.aload_n 1, 1) := by decide +kernel
theorem dL_acts_970 : decode cL_acts 970 = .ok (.invokevirtual 186, 3) := by decide +kernel
theorem dL_acts_973 : decode cL_acts 973 = .ok (.invokestatic 230, 3) := by decide +kernel
theorem dL_acts_976 : decode cL_acts 976 = .ok (.putfield 206, 3) := by decide +kernel
theorem dL_acts_979 : decode cL_acts 979 = .ok (.aload_n 0, 1) := by decide +kernel
theorem dL_acts_980 : decode cL_acts 980 = .ok (.iload 5, 2) := by decide +kernel
theorem dL_acts_982 : decode cL_acts 982 = .ok (.invokevirtual 359, 3) := by decide +kernel
theorem dL_acts_985 : decode cL_acts 985 = .ok (.iload 7, 2) := by decide +kernel
theorem dL_acts_987 : decode cL_acts 987 = .ok (.aload_n 3, 1) := by decide +kernel
theorem dL_acts_988 : decode cL_acts 988 = .ok (.invokestatic 329, 3) := by decide +kernel
theorem dL_acts_991 : decode cL_acts 991 = .ok (.ireturn, 1) := by decide +kernel
theorem dL_acts_992 : decode cL_acts 992 = .ok (.aload_n 1, 1) := by decide +kernel
theorem dL_acts_993 : decode cL_acts 993 = .ok (.iconst 1, 1) := by decide +kernel
theorem dL_acts_994 : decode cL_acts 994 = .ok (.invokevirtual 219, 3) := by decide +kernel
theorem dL_acts_997 : decode cL_acts 997 = .ok (.istore 5, 2) := by decide +kernel
theorem dL_acts_999 : decode cL_acts 999 = .ok (.aload_n 1, 1) := by decide +kernel
theorem dL_acts_1000 : decode cL_acts 1000 = .ok (.aload_n 1, 1) := by decide +kernel
theorem dL_acts_1001 : decode cL_acts 1001 = .ok (.invokevirtual 186, 3) := by decide +kernel
theorem dL_acts_1004 : decode cL_acts 1004 = .ok (.putfield 206, 3) := by decide +kernel
theorem dL_acts_1007 : decode cL_acts 1007 = .ok (.aload_n 0, 1) := by decide +kernel
theorem dL_acts_1008 : decode cL_acts 1008 = .ok (.invokevirtual 369, 3) := by decide +kernel
theorem dL_acts_1011 : decode cL_acts 1011 = .ok (.aload_n 1, 1) := by decide +kernel
theorem dL_acts_1012 : decode cL_acts 1012 = .ok (.iconst 1, 1) := by decide +kernel
theorem dL_acts_1013 : decode cL_acts 1013 = .ok (.invokevirtual 219, 3) := by decide +kernel
theorem dL_acts_1016 : decode cL_acts 1016 = .ok (.iload 5, 2) := by decide +kernel
theorem dL_acts_1018 : decode cL_acts 1018 = .ok (.isub, 1) := by decide +kernel
theorem dL_acts_1019 : decode cL_acts 1019 = .ok (.aload_n 3, 1) := by decide +kernel
theorem dL_acts_1020 : decode cL_acts 1020 = .ok (.invokestatic 329, 3) := by decide +kernel
