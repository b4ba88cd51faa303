theorem dX6_init_0 : decode cX6_init 0 = .ok (.aload_n 0, 1) := by decide +kernel
theorem dX6_init_1 : decode cX6_init 1 = .ok (.invokespecial 3, 3) := by decide +kernel
theorem dX6_init_4 : decode cX6_init 4 = .ok (.aload_n 0, 1) := by decide +kernel
theorem dX6_init_5 : decode cX6_init 5 = .ok (.bipush 6, 2) := by decide +kernel
theorem dX6_init_7 : decode cX6_init 7 = .ok (.iconst 4, 1) := by decide +kernel
theorem dX6_init_8 : decode cX6_init 8 = .ok (.multianewarray 9 2, 4) := by decide +kernel
theorem dX6_init_12 : decode cX6_init 12 = .ok (.putfield 11, 3) := by decide +kernel
theorem dX6_init_15 : decode cX6_init 15 = .ok (.aload_n 0, 1) := by decide +kernel
theorem dX6_init_16 : decode cX6_init 16 = .ok (.iconst 4, 1) := by decide +kernel
theorem dX6_init_17 : decode cX6_init 17 = .ok (.newarray .int, 2) := by decide +kernel
theorem dX6_init_19 : decode cX6_init 19 = .ok (.putfield 16, 3) := by decide +kernel
theorem dX6_init_22 : decode cX6_init 22 = .ok (.aload_n 0, 1) := by decide +kernel
theorem dX6_init_23 : decode cX6_init 23 = .ok (.iconst 4, 1) := by decide +kernel
theorem dX6_init_24 : decode cX6_init 24 = .ok (.newarray .int, 2) := by decide +kernel
theorem dX6_init_26 : decode cX6_init 26 = .ok (.putfield 20, 3) := by decide +kernel
theorem dX6_init_29 : decode cX6_init 29 = .ok (.aload_n 0, 1) := by decide +kernel
theorem dX6_init_30 : decode cX6_init 30 = .ok (.iconst 4, 1) := by decide +kernel
theorem dX6_init_31 : decode cX6_init 31 = .ok (.newarray .int, 2) := by decide +kernel
theorem dX6_init_33 : decode cX6_init 33 = .ok (.putfield 23, 3) := by decide +kernel
theorem dX6_init_36 : decode cX6_init 36 = .ok (.aload_n 0, 1) := by decide +kernel
theorem dX6_init_37 : decode cX6_init 37 = .ok (.iconst 4, 1) := by decide +kernel
theorem dX6_init_38 : decode cX6_init 38 = .ok (.newarray .int, 2) := by decide +kernel
theorem dX6_init_40 : decode cX6_init 40 = .ok (.putfield 26, 3) := by decide +kernel
theorem dX6_init_43 : decode cX6_init 43 = .ok (.aload_n 0, 1) := by decide +kernel
theorem dX6_init_44 : decode cX6_init 44 = .ok (.bipush 64, 2) := by decide +kernel
theorem dX6_init_46 : decode cX6_init 46 = .ok (.newarray .int, 2) := by decide +kernel
theorem dX6_init_48 : decode cX6_init 48 = .ok (.putfield 29, 3) := by decide +kernel
theorem dX6_init_51 : decode cX6_init 51 = .ok (.return_, 1) := by decide +kernel
theorem dX6_prepare_0 : decode cX6_prepare 0 = .ok (.aload_n 0, 1) := by decide +kernel
theorem dX6_prepare_1 : decode cX6_prepare 1 = .ok (.iconst 0, 1) := by decide +kernel
theorem dX6_prepare_2 : decode cX6_prepare 2 = .ok (.putfield 32, 3) := by decide +kernel
theorem dX6_prepare_5 : decode cX6_prepare 5 = .ok (.iconst 0, 1) := by decide +kernel
theorem dX6_prepare_6 : decode cX6_prepare 6 = .ok (.istore_n 3, 1) := by decide +kernel
theorem dX6_prepare_7 : decode cX6_prepare 7 = .ok (.iload_n 3, 1) := by decide +kernel
theorem dX6_prepare_8 : decode cX6_prepare 8 = .ok (.aload_n 1, 1) := by decide +kernel
theorem dX6_prepare_9 : decode cX6_prepare 9 = .ok (.getfield 36, 3) := by decide +kernel
theorem dX6_prepare_12 : decode cX6_prepare 12 = .ok (.if_icmp .ge 35, 3) := by decide +kernel
theorem dX6_prepare_15 : decode cX6_prepare 15 = .ok (.iload_n 3, 1) := by decide +kernel
theorem dX6_prepare_16 : decode cX6_prepare 16 = .ok (.iload_n 2, 1) := by decide +kernel
theorem dX6_prepare_17 : decode cX6_prepare 17 = .ok (.if_icmp .eq 24, 3) := by decide +kernel
theorem dX6_prepare_20 : decode cX6_prepare 20 = .ok (.aload_n 1, 1) := by decide +kernel
theorem dX6_prepare_21 : decode cX6_prepare 21 = .ok (.getfield 41, 3) := by decide +kernel
theorem dX6_prepare_24 : decode cX6_prepare 24 = .ok (.iload_n 3, 1) := by decide +kernel
theorem dX6_prepare_25 : decode cX6_prepare 25 = .ok (.iaload, 1) := by decide +kernel
theorem dX6_prepare_26 : decode cX6_prepare 26 = .ok (.ifCond .ne 15, 3) := by decide +kernel
theorem dX6_prepare_29 : decode cX6_prepare 29 = .ok (.aload_n 0, 1) := by decide +kernel
theorem dX6_prepare_30 : decode cX6_prepare 30 = .ok (.dup, 1) := by decide +kernel
theorem dX6_prepare_31 : decode cX6_prepare 31 = .ok (.getfield 32, 3) := by decide +kernel
theorem dX6_prepare_34 : decode cX6_prepare 34 = .ok (.iconst 1, 1) := by decide +kernel
theorem dX6_prepare_35 : decode cX6_prepare 35 = .ok (.iload_n 3, 1) := by decide +kernel
theorem dX6_prepare_36 : decode cX6_prepare 36 = .ok (.ishl, 1) := by decide +kernel
theorem dX6_prepare_37 : decode cX6_prepare 37 = .ok (.ior, 1) := by decide +kernel
theorem dX6_prepare_38 : decode cX6_prepare 38 = .ok (.putfield 32, 3) := by decide +kernel
theorem dX6_prepare_41 : decode cX6_prepare 41 = .ok (.iinc 3 1, 3) := by decide +kernel
theorem dX6_prepare_44 : decode cX6_prepare 44 = .ok (.goto (-37), 3) := by decide +kernel
theorem dX6_prepare_47 : decode cX6_prepare 47 = .ok (.aload_n 0, 1) := by decide +kernel
theorem dX6_prepare_48 : decode cX6_prepare 48 = .ok (.iconst 0, 1) := by decide +kernel
theorem dX6_prepare_49 : decode cX6_prepare 49 = .ok (.putfield 44, 3) := by decide +kernel
theorem dX6_prepare_52 : decode cX6_prepare 52 = .ok (.iconst 0, 1) := by decide +kernel
theorem dX6_prepare_53 : decode cX6_prepare 53 = .ok (.istore_n 3, 1) := by decide +kernel
theorem dX6_prepare_54 : decode cX6_prepare 54 = .ok (.iload_n 3, 1) := by decide +kernel
theorem dX6_prepare_55 : decode cX6_prepare 55 = .ok (.aload_n 1, 1) := by decide +kernel
theorem dX6_prepare_56 : decode cX6_prepare 56 = .ok (.getfield 47, 3) := by decide +kernel
theorem dX6_prepare_59 : decode cX6_prepare 59 = .ok (.if_icmp .ge 101, 3) := by decide +kernel
theorem dX6_prepare_62 : decode cX6_prepare 62 = .ok (.aload_n 1, 1) := by decide +kernel
theorem dX6_prepare_63 : decode cX6_prepare 63 = .ok (.iload_n 2, 1) := by decide +kernel
theorem dX6_prepare_64 : decode cX6_prepare 64 = .ok (.iload_n 3, 1) := by decide +kernel
theorem dX6_prepare_65 : decode cX6_prepare 65 = .ok (.invokevirtual 49, 3) := by decide +kernel
theorem dX6_prepare_68 : decode cX6_prepare 68 = .ok (.istore 4, 2) := by decide +kernel
theorem dX6_prepare_70 : decode cX6_prepare 70 = .ok (.iload 4, 2) := by decide +kernel
theorem dX6_prepare_72 : decode cX6_prepare 72 = .ok (.ifCond .eq 34, 3) := by decide +kernel
theorem dX6_prepare_75 : decode cX6_prepare 75 = .ok (.aload_n 0, 1) := by decide +kernel
theorem dX6_prepare_76 : decode cX6_prepare 76 = .ok (.getfield 16, 3) := by decide +kernel
theorem dX6_prepare_79 : decode cX6_prepare 79 = .ok (.aload_n 0, 1) := by decide +kernel
theorem dX6_prepare_80 : decode cX6_prepare 80 = .ok (.getfield 44, 3) := by decide +kernel
theorem dX6_prepare_83 : decode cX6_prepare 83 = .ok (.iload_n 3, 1) := by decide +kernel
theorem dX6_prepare_84 : decode cX6_prepare 84 = .ok (.iastore, 1) := by decide +kernel
theorem dX6_prepare_85 : decode cX6_prepare 85 = .ok (.aload_n 0, 1) := by decide +kernel
theorem dX6_prepare_86 : decode cX6_prepare 86 = .ok (.getfield 20, 3) := by decide +kernel
theorem dX6_prepare_89 : decode cX6_prepare 89 = .ok (.aload_n 0, 1) := by decide +kernel
theorem dX6_prepare_90 : decode cX6_prepare 90 = .ok (.getfield 44, 3) := by decide +kernel
theorem dX6_prepare_93 : decode cX6_prepare 93 = .ok (.iload 4, 2) := by decide +kernel
theorem dX6_prepare_95 : decode cX6_prepare 95 = .ok (.iastore, 1) := by decide +kernel
theorem dX6_prepare_96 : decode cX6_prepare 96 = .ok (.aload_n 0, 1) := by decide +kernel
theorem dX6_prepare_97 : decode cX6_prepare 97 = .ok (.dup, 1) := by decide +kernel
theorem dX6_prepare_98 : decode cX6_prepare 98 = .ok (.getfield 44, 3) := by decide +kernel
theorem dX6_prepare_101 : decode cX6_prepare 101 = .ok (.iconst 1, 1) := by decide +kernel
theorem dX6_prepare_102 : decode cX6_prepare 102 = .ok (.iadd, 1) := by decide +kernel
theorem dX6_prepare_103 : decode cX6_prepare 103 = .ok (.putfield 44, 3) := by decide +kernel
theorem dX6_prepare_106 : decode cX6_prepare 106 = .ok (.iload 4, 2) := by decide +kernel
theorem dX6_prepare_108 : decode cX6_prepare 108 = .ok (.ifCond .ne 7, 3) := by decide +kernel
theorem dX6_prepare_111 : decode cX6_prepare 111 = .ok (.iload_n 2, 1) := by decide +kernel
theorem dX6_prepare_112 : decode cX6_prepare 112 = .ok (.goto 4, 3) := by decide +kernel
theorem dX6_prepare_115 : decode cX6_prepare 115 = .ok (.iconst (-1), 1) := by decide +kernel
theorem dX6_prepare_116 : decode cX6_prepare 116 = .ok (.istore 5, 2) := by decide +kernel
theorem dX6_prepare_118 : decode cX6_prepare 118 = .ok (.iconst 0, 1) := by decide +kernel
theorem dX6_prepare_119 : decode cX6_prepare 119 = .ok (.istore 6, 2) := by decide +kernel
theorem dX6_prepare_121 : decode cX6_prepare 121 = .ok (.iload 6, 2) := by decide +kernel
theorem dX6_prepare_123 : decode cX6_prepare 123 = .ok (.aload_n 1, 1) := by decide +kernel
theorem dX6_prepare_124 : decode cX6_prepare 124 = .ok (.getfield 36, 3) := by decide +kernel
theorem dX6_prepare_127 : decode cX6_prepare 127 = .ok (.if_icmp .ge 27, 3) := by decide +kernel
theorem dX6_prepare_130 : decode cX6_prepare 130 = .ok (.aload_n 0, 1) := by decide +kernel
theorem dX6_prepare_131 : decode cX6_prepare 131 = .ok (.getfield 11, 3) := by decide +kernel
theorem dX6_prepare_134 : decode cX6_prepare 134 = .ok (.iload 6, 2) := by decide +kernel
theorem dX6_prepare_136 : decode cX6_prepare 136 = .ok (.aaload, 1) := by decide +kernel
theorem dX6_prepare_137 : decode cX6_prepare 137 = .ok (.iload_n 3, 1) := by decide +kernel
theorem dX6_prepare_138 : decode cX6_prepare 138 = .ok (.aload_n 1, 1) := by decide +kernel
theorem dX6_prepare_139 : decode cX6_prepare 139 = .ok (.iload 6, 2) := by decide +kernel
theorem dX6_prepare_141 : decode cX6_prepare 141 = .ok (.iload_n 3, 1) := by decide +kernel
theorem dX6_prepare_142 : decode cX6_prepare 142 = .ok (.iload 5, 2) := by decide +kernel
theorem dX6_prepare_144 : decode cX6_prepare 144 = .ok (.invokevirtual 53, 3) := by decide +kernel
theorem dX6_prepare_147 : decode cX6_prepare 147 = .ok (.iastore, 1) := by decide +kernel
theorem dX6_prepare_148 : decode cX6_prepare 148 = .ok (.iinc 6 1, 3) := by decide +kernel
theorem dX6_prepare_151 : decode cX6_prepare 151 = .ok (.goto (-30), 3) := by decide +kernel
theorem dX6_prepare_154 : decode cX6_prepare 154 = .ok (.iinc 3 1, 3) := by decide +kernel
theorem dX6_prepare_157 : decode cX6_prepare 157 = .ok (.goto (-103), 3) := by decide +kernel
theorem dX6_prepare_160 : decode cX6_prepare 160 = .ok (.return_, 1) := by decide +kernel
theorem dX6_isPossible_0 : decode cX6_isPossible 0 = .ok (.aload_n 0, 1) := by decide +kernel
theorem dX6_isPossible_1 : decode cX6_isPossible 1 = .ok (.getfield 32, 3) := by decide +kernel
theorem dX6_isPossible_4 : decode cX6_isPossible 4 = .ok (.invokestatic 57, 3) := by decide +kernel
theorem dX6_isPossible_7 : decode cX6_isPossible 7 = .ok (.aload_n 0, 1) := by decide +kernel
theorem dX6_isPossible_8 : decode cX6_isPossible 8 = .ok (.getfield 44, 3) := by decide +kernel
theorem dX6_isPossible_11 : decode cX6_isPossible 11 = .ok (.if_icmp .lt 7, 3) := by decide +kernel
theorem dX6_isPossible_14 : decode cX6_isPossible 14 = .ok (.iconst 1, 1) := by decide +kernel
theorem dX6_isPossible_15 : decode cX6_isPossible 15 = .ok (.goto 4, 3) := by decide +kernel
theorem dX6_isPossible_18 : decode cX6_isPossible 18 = .ok (.iconst 0, 1) := by decide +kernel
theorem dX6_isPossible_19 : decode cX6_isPossible 19 = .ok (.ireturn, 1) := by decide +kernel
theorem dX6_leastOverWays_0 : decode cX6_leastOverWays 0 = .ok (.aload_n 0, 1) := by decide +kernel
theorem dX6_leastOverWays_1 : decode cX6_leastOverWays 1 = .ok (.ldc 63, 2) := by decide +kernel
theorem dX6_leastOverWays_3 : decode cX6_leastOverWays 3 = .ok (.putfield 64, 3) := by decide +kernel
theorem dX6_leastOverWays_6 : decode cX6_leastOverWays 6 = .ok (.aload_n 0, 1) := by decide +kernel
theorem dX6_leastOverWays_7 : decode cX6_leastOverWays 7 = .ok (.aload_n 1, 1) := by decide +kernel
theorem dX6_leastOverWays_8 : decode cX6_leastOverWays 8 = .ok (.iconst 0, 1) := by decide +kernel
theorem dX6_leastOverWays_9 : decode cX6_leastOverWays 9 = .ok (.aload_n 0, 1) := by decide +kernel
theorem dX6_leastOverWays_10 : decode cX6_leastOverWays 10 = .ok (.getfield 32, 3) := by decide +kernel
theorem dX6_leastOverWays_13 : decode cX6_leastOverWays 13 = .ok (.invokevirtual 67, 3) := by decide +kernel
theorem dX6_leastOverWays_16 : decode cX6_leastOverWays 16 = .ok (.aload_n 0, 1) := by decide +kernel
theorem dX6_leastOverWays_17 : decode cX6_leastOverWays 17 = .ok (.getfield 64, 3) := by decide +kernel
theorem dX6_leastOverWays_20 : decode cX6_leastOverWays 20 = .ok (.ireturn, 1) := by decide +kernel
theorem dX6_tryTakers_0 : decode cX6_tryTakers 0 = .ok (.iload_n 2, 1) := by decide +kernel
theorem dX6_tryTakers_1 : decode cX6_tryTakers 1 = .ok (.aload_n 0, 1) := by decide +kernel
theorem dX6_tryTakers_2 : decode cX6_tryTakers 2 = .ok (.getfield 44, 3) := by decide +kernel
theorem dX6_tryTakers_5 : decode cX6_tryTakers 5 = .ok (.if_icmp .lt 40, 3) := by decide +kernel
theorem dX6_tryTakers_8 : decode cX6_tryTakers 8 = .ok (.aload_n 0, 1) := by decide +kernel
theorem dX6_tryTakers_9 : decode cX6_tryTakers 9 = .ok (.aload_n 1, 1) := by decide +kernel
theorem dX6_tryTakers_10 : decode cX6_tryTakers 10 = .ok (.invokevirtual 71, 3) := by decide +kernel
theorem dX6_tryTakers_13 : decode cX6_tryTakers 13 = .ok (.istore 4, 2) := by decide +kernel
theorem dX6_tryTakers_15 : decode cX6_tryTakers 15 = .ok (.iload 4, 2) := by decide +kernel
theorem dX6_tryTakers_17 : decode cX6_tryTakers 17 = .ok (.aload_n 0, 1) := by decide +kernel
theorem dX6_tryTakers_18 : decode cX6_tryTakers 18 = .ok (.getfield 64, 3) := by decide +kernel
theorem dX6_tryTakers_21 : decode cX6_tryTakers 21 = .ok (.if_icmp .ge 23, 3) := by decide +kernel
theorem dX6_tryTakers_24 : decode cX6_tryTakers 24 = .ok (.aload_n 0, 1) := by decide +kernel
theorem dX6_tryTakers_25 : decode cX6_tryTakers 25 = .ok (.iload 4, 2) := by decide +kernel
theorem dX6_tryTakers_27 : decode cX6_tryTakers 27 = .ok (.putfield 64, 3) := by decide +kernel
theorem dX6_tryTakers_30 : decode cX6_tryTakers 30 = .ok (.aload_n 0, 1) := by decide +kernel
theorem dX6_tryTakers_31 : decode cX6_tryTakers 31 = .ok (.getfield 23, 3) := by decide +kernel
theorem dX6_tryTakers_34 : decode cX6_tryTakers 34 = .ok (.iconst 0, 1) := by decide +kernel
theorem dX6_tryTakers_35 : decode cX6_tryTakers 35 = .ok (.aload_n 0, 1) := by decide +kernel
theorem dX6_tryTakers_36 : decode cX6_tryTakers 36 = .ok (.getfield 26, 3) := by decide +kernel
theorem dX6_tryTakers_39 : decode cX6_tryTakers 39 = .ok (.iconst 0, 1) := by decide +kernel
theorem dX6_tryTakers_40 : decode cX6_tryTakers 40 = .ok (.iconst 4, 1) := by decide +kernel
theorem dX6_tryTakers_41 : decode cX6_tryTakers 41 = .ok (.invokestatic 75, 3) := by decide +kernel
theorem dX6_tryTakers_44 : decode cX6_tryTakers 44 = .ok (.return_, 1) := by decide +kernel
theorem dX6_tryTakers_45 : decode cX6_tryTakers 45 = .ok (.iconst 0, 1) := by decide +kernel
theorem dX6_tryTakers_46 : decode cX6_tryTakers 46 = .ok (.istore 4, 2) := by decide +kernel
theorem dX6_tryTakers_48 : decode cX6_tryTakers 48 = .ok (.iload 4, 2) := by decide +kernel
theorem dX6_tryTakers_50 : decode cX6_tryTakers 50 = .ok (.aload_n 1, 1) := by decide +kernel
theorem dX6_tryTakers_51 : decode cX6_tryTakers 51 = .ok (.getfield 36, 3) := by decide +kernel
theorem dX6_tryTakers_54 : decode cX6_tryTakers 54 = .ok (.if_icmp .ge 86, 3) := by decide +kernel
theorem dX6_tryTakers_57 : decode cX6_tryTakers 57 = .ok (.iload_n 3, 1) := by decide +kernel
theorem dX6_tryTakers_58 : decode cX6_tryTakers 58 = .ok (.iload 4, 2) := by decide +kernel
theorem dX6_tryTakers_60 : decode cX6_tryTakers 60 = .ok (.ishr, 1) := by decide +kernel
theorem dX6_tryTakers_61 : decode cX6_tryTakers 61 = .ok (.iconst 1, 1) := by decide +kernel
theorem dX6_tryTakers_62 : decode cX6_tryTakers 62 = .ok (.iand, 1) := by decide +kernel
theorem dX6_tryTakers_63 : decode cX6_tryTakers 63 = .ok (.ifCond .eq 71, 3) := by decide +kernel
theorem dX6_tryTakers_66 : decode cX6_tryTakers 66 = .ok (.aload_n 0, 1) := by decide +kernel
theorem dX6_tryTakers_67 : decode cX6_tryTakers 67 = .ok (.getfield 23, 3) := by decide +kernel
theorem dX6_tryTakers_70 : decode cX6_tryTakers 70 = .ok (.iload_n 2, 1) := by decide +kernel
theorem dX6_tryTakers_71 : decode cX6_tryTakers 71 = .ok (.iload 4, 2) := by decide +kernel
theorem dX6_tryTakers_73 : decode cX6_tryTakers 73 = .ok (.iastore, 1) := by decide +kernel
theorem dX6_tryTakers_74 : decode cX6_tryTakers 74 = .ok (.aload_n 0, 1) := by decide +kernel
theorem dX6_tryTakers_75 : decode cX6_tryTakers 75 = .ok (.getfield 11, 3) := by decide +kernel
theorem dX6_tryTakers_78 : decode cX6_tryTakers 78 = .ok (.iload 4, 2) := by decide +kernel
theorem dX6_tryTakers_80 : decode cX6_tryTakers 80 = .ok (.aaload, 1) := by decide +kernel
theorem dX6_tryTakers_81 : decode cX6_tryTakers 81 = .ok (.aload_n 0, 1) := by decide +kernel
theorem dX6_tryTakers_82 : decode cX6_tryTakers 82 = .ok (.getfield 16, 3) := by decide +kernel
theorem dX6_tryTakers_85 : decode cX6_tryTakers 85 = .ok (.iload_n 2, 1) := by decide +kernel
theorem dX6_tryTakers_86 : decode cX6_tryTakers 86 = .ok (.iaload, 1) := by decide +kernel
theorem dX6_tryTakers_87 : decode cX6_tryTakers 87 = .ok (.dup2, 1) := by decide +kernel
theorem dX6_tryTakers_88 : decode cX6_tryTakers 88 = .ok (.iaload, 1) := by decide +kernel
theorem dX6_tryTakers_89 : decode cX6_tryTakers 89 = .ok (.aload_n 0, 1) := by decide +kernel
theorem dX6_tryTakers_90 : decode cX6_tryTakers 90 = .ok (.getfield 20, 3) := by decide +kernel
theorem dX6_tryTakers_93 : decode cX6_tryTakers 93 = .ok (.iload_n 2, 1) := by decide +kernel
theorem dX6_tryTakers_94 : decode cX6_tryTakers 94 = .ok (.iaload, 1) := by decide +kernel
theorem dX6_tryTakers_95 : decode cX6_tryTakers 95 = .ok (.iadd, 1) := by decide +kernel
theorem dX6_tryTakers_96 : decode cX6_tryTakers 96 = .ok (.iastore, 1) := by decide +kernel
theorem dX6_tryTakers_97 : decode cX6_tryTakers 97 = .ok (.aload_n 0, 1) := by decide +kernel
theorem dX6_tryTakers_98 : decode cX6_tryTakers 98 = .ok (.aload_n 1, 1) := by decide +kernel
theorem dX6_tryTakers_99 : decode cX6_tryTakers 99 = .ok (.iload_n 2, 1) := by decide +kernel
theorem dX6_tryTakers_100 : decode cX6_tryTakers 100 = .ok (.iconst 1, 1) := by decide +kernel
theorem dX6_tryTakers_101 : decode cX6_tryTakers 101 = .ok (.iadd, 1) := by decide +kernel
theorem dX6_tryTakers_102 : decode cX6_tryTakers 102 = .ok (.iload_n 3, 1) := by decide +kernel
theorem dX6_tryTakers_103 : decode cX6_tryTakers 103 = .ok (.iconst 1, 1) := by decide +kernel
theorem dX6_tryTakers_104 : decode cX6_tryTakers 104 = .ok (.iload 4, 2) := by decide +kernel
theorem dX6_tryTakers_106 : decode cX6_tryTakers 106 = .ok (.ishl, 1) := by decide +kernel
theorem dX6_tryTakers_107 : decode cX6_tryTakers 107 = .ok (.ixor, 1) := by decide +kernel
theorem dX6_tryTakers_108 : decode cX6_tryTakers 108 = .ok (.invokevirtual 67, 3) := by decide +kernel
theorem dX6_tryTakers_111 : decode cX6_tryTakers 111 = .ok (.aload_n 0, 1) := by decide +kernel
theorem dX6_tryTakers_112 : decode cX6_tryTakers 112 = .ok (.getfield 11, 3) := by decide +kernel
theorem dX6_tryTakers_115 : decode cX6_tryTakers 115 = .ok (.iload 4, 2) := by decide +kernel
theorem dX6_tryTakers_117 : decode cX6_tryTakers 117 = .ok (.aaload, 1) := by decide +kernel
theorem dX6_tryTakers_118 : decode cX6_tryTakers 118 = .ok (.aload_n 0, 1) := by decide +kernel
theorem dX6_tryTakers_119 : decode cX6_tryTakers 119 = .ok (.getfield 16, 3) := by decide +kernel
theorem dX6_tryTakers_122 : decode cX6_tryTakers 122 = .ok (.iload_n 2, 1) := by decide +kernel
theorem dX6_tryTakers_123 : decode cX6_tryTakers 123 = .ok (.iaload, 1) := by decide +kernel
theorem dX6_tryTakers_124 : decode cX6_tryTakers 124 = .ok (.dup2, 1) := by decide +kernel
theorem dX6_tryTakers_125 : decode cX6_tryTakers 125 = .ok (.iaload, 1) := by decide +kernel
theorem dX6_tryTakers_126 : decode cX6_tryTakers 126 = .ok (.aload_n 0, 1) := by decide +kernel
theorem dX6_tryTakers_127 : decode cX6_tryTakers 127 = .ok (.getfield 20, 3) := by decide +kernel
theorem dX6_tryTakers_130 : decode cX6_tryTakers 130 = .ok (.iload_n 2, 1) := by decide +kernel
theorem dX6_tryTakers_131 : decode cX6_tryTakers 131 = .ok (.iaload, 1) := by decide +kernel
theorem dX6_tryTakers_132 : decode cX6_tryTakers 132 = .ok (.isub, 1) := by decide +kernel
theorem dX6_tryTakers_133 : decode cX6_tryTakers 133 = .ok (.iastore, 1) := by decide +kernel
theorem dX6_tryTakers_134 : decode cX6_tryTakers 134 = .ok (.iinc 4 1, 3) := by decide +kernel
theorem dX6_tryTakers_137 : decode cX6_tryTakers 137 = .ok (.goto (-89), 3) := by decide +kernel
theorem dX6_tryTakers_140 : decode cX6_tryTakers 140 = .ok (.return_, 1) := by decide +kernel
theorem dX6_sumOfMargins_0 : decode cX6_sumOfMargins 0 = .ok (.iconst 0, 1) := by decide +kernel
theorem dX6_sumOfMargins_1 : decode cX6_sumOfMargins 1 = .ok (.istore_n 2, 1) := by decide +kernel
theorem dX6_sumOfMargins_2 : decode cX6_sumOfMargins 2 = .ok (.iconst 0, 1) := by decide +kernel
theorem dX6_sumOfMargins_3 : decode cX6_sumOfMargins 3 = .ok (.istore_n 3, 1) := by decide +kernel
theorem dX6_sumOfMargins_4 : decode cX6_sumOfMargins 4 = .ok (.iload_n 3, 1) := by decide +kernel
theorem dX6_sumOfMargins_5 : decode cX6_sumOfMargins 5 = .ok (.aload_n 1, 1) := by decide +kernel
theorem dX6_sumOfMargins_6 : decode cX6_sumOfMargins 6 = .ok (.getfield 36, 3) := by decide +kernel
theorem dX6_sumOfMargins_9 : decode cX6_sumOfMargins 9 = .ok (.if_icmp .ge 73, 3) := by decide +kernel
theorem dX6_sumOfMargins_12 : decode cX6_sumOfMargins 12 = .ok (.aload_n 0, 1) := by decide +kernel
theorem dX6_sumOfMargins_13 : decode cX6_sumOfMargins 13 = .ok (.getfield 32, 3) := by decide +kernel
theorem dX6_sumOfMargins_16 : decode cX6_sumOfMargins 16 = .ok (.iload_n 3, 1) := by decide +kernel
theorem dX6_sumOfMargins_17 : decode cX6_sumOfMargins 17 = .ok (.ishr, 1) := by decide +kernel
theorem dX6_sumOfMargins_18 : decode cX6_sumOfMargins 18 = .ok (.iconst 1, 1) := by decide +kernel
theorem dX6_sumOfMargins_19 : decode cX6_sumOfMargins 19 = .ok (.iand, 1) := by decide +kernel
theorem dX6_sumOfMargins_20 : decode cX6_sumOfMargins 20 = .ok (.ifCond .eq 56, 3) := by decide +kernel
theorem dX6_sumOfMargins_23 : decode cX6_sumOfMargins 23 = .ok (.iconst 0, 1) := by decide +kernel
theorem dX6_sumOfMargins_24 : decode cX6_sumOfMargins 24 = .ok (.istore 4, 2) := by decide +kernel
theorem dX6_sumOfMargins_26 : decode cX6_sumOfMargins 26 = .ok (.iload 4, 2) := by decide +kernel
theorem dX6_sumOfMargins_28 : decode cX6_sumOfMargins 28 = .ok (.aload_n 1, 1) := by decide +kernel
theorem dX6_sumOfMargins_29 : decode cX6_sumOfMargins 29 = .ok (.getfield 47, 3) := by decide +kernel
theorem dX6_sumOfMargins_32 : decode cX6_sumOfMargins 32 = .ok (.if_icmp .ge 44, 3) := by decide +kernel
theorem dX6_sumOfMargins_35 : decode cX6_sumOfMargins 35 = .ok (.aload_n 0, 1) := by decide +kernel
theorem dX6_sumOfMargins_36 : decode cX6_sumOfMargins 36 = .ok (.getfield 11, 3) := by decide +kernel
theorem dX6_sumOfMargins_39 : decode cX6_sumOfMargins 39 = .ok (.iload_n 3, 1) := by decide +kernel
theorem dX6_sumOfMargins_40 : decode cX6_sumOfMargins 40 = .ok (.aaload, 1) := by decide +kernel
theorem dX6_sumOfMargins_41 : decode cX6_sumOfMargins 41 = .ok (.iload 4, 2) := by decide +kernel
theorem dX6_sumOfMargins_43 : decode cX6_sumOfMargins 43 = .ok (.iaload, 1) := by decide +kernel
theorem dX6_sumOfMargins_44 : decode cX6_sumOfMargins 44 = .ok (.istore 5, 2) := by decide +kernel
theorem dX6_sumOfMargins_46 : decode cX6_sumOfMargins 46 = .ok (.iload_n 2, 1) := by decide +kernel
theorem dX6_sumOfMargins_47 : decode cX6_sumOfMargins 47 = .ok (.iload 5, 2) := by decide +kernel
theorem dX6_sumOfMargins_49 : decode cX6_sumOfMargins 49 = .ok (.ifCond .ge 9, 3) := by decide +kernel
theorem dX6_sumOfMargins_52 : decode cX6_sumOfMargins 52 = .ok (.iload 5, 2) := by decide +kernel
theorem dX6_sumOfMargins_54 : decode cX6_sumOfMargins 54 = .ok (.ineg, 1) := by decide +kernel
theorem dX6_sumOfMargins_55 : decode cX6_sumOfMargins 55 = .ok (.goto 5, 3) := by decide +kernel
theorem dX6_sumOfMargins_58 : decode cX6_sumOfMargins 58 = .ok (.iload 5, 2) := by decide +kernel
theorem dX6_sumOfMargins_60 : decode cX6_sumOfMargins 60 = .ok (.aload_n 1, 1) := by decide +kernel
theorem dX6_sumOfMargins_61 : decode cX6_sumOfMargins 61 = .ok (.getfield 81, 3) := by decide +kernel
theorem dX6_sumOfMargins_64 : decode cX6_sumOfMargins 64 = .ok (.iload 4, 2) := by decide +kernel
theorem dX6_sumOfMargins_66 : decode cX6_sumOfMargins 66 = .ok (.iaload, 1) := by decide +kernel
theorem dX6_sumOfMargins_67 : decode cX6_sumOfMargins 67 = .ok (.imul, 1) := by decide +kernel
theorem dX6_sumOfMargins_68 : decode cX6_sumOfMargins 68 = .ok (.iadd, 1) := by decide +kernel
theorem dX6_sumOfMargins_69 : decode cX6_sumOfMargins 69 = .ok (.istore_n 2, 1) := by decide +kernel
theorem dX6_sumOfMargins_70 : decode cX6_sumOfMargins 70 = .ok (.iinc 4 1, 3) := by decide +kernel
theorem dX6_sumOfMargins_73 : decode cX6_sumOfMargins 73 = .ok (.goto (-47), 3) := by decide +kernel
theorem dX6_sumOfMargins_76 : decode cX6_sumOfMargins 76 = .ok (.iinc 3 1, 3) := by decide +kernel
theorem dX6_sumOfMargins_79 : decode cX6_sumOfMargins 79 = .ok (.goto (-75), 3) := by decide +kernel
theorem dX6_sumOfMargins_82 : decode cX6_sumOfMargins 82 = .ok (.iload_n 2, 1) := by decide +kernel
theorem dX6_sumOfMargins_83 : decode cX6_sumOfMargins 83 = .ok (.ireturn, 1) := by decide +kernel
theorem dX6_leastOverSets_0 : decode cX6_leastOverSets 0 = .ok (.ldc 63, 2) := by decide +kernel
theorem dX6_leastOverSets_2 : decode cX6_leastOverSets 2 = .ok (.istore_n 2, 1) := by decide +kernel
theorem dX6_leastOverSets_3 : decode cX6_leastOverSets 3 = .ok (.iconst 0, 1) := by decide +kernel
theorem dX6_leastOverSets_4 : decode cX6_leastOverSets 4 = .ok (.istore_n 3, 1) := by decide +kernel
theorem dX6_leastOverSets_5 : decode cX6_leastOverSets 5 = .ok (.iload_n 3, 1) := by decide +kernel
theorem dX6_leastOverSets_6 : decode cX6_leastOverSets 6 = .ok (.iconst 1, 1) := by decide +kernel
theorem dX6_leastOverSets_7 : decode cX6_leastOverSets 7 = .ok (.aload_n 1, 1) := by decide +kernel
theorem dX6_leastOverSets_8 : decode cX6_leastOverSets 8 = .ok (.getfield 36, 3) := by decide +kernel
theorem dX6_leastOverSets_11 : decode cX6_leastOverSets 11 = .ok (.ishl, 1) := by decide +kernel
theorem dX6_leastOverSets_12 : decode cX6_leastOverSets 12 = .ok (.if_icmp .ge 87, 3) := by decide +kernel
theorem dX6_leastOverSets_15 : decode cX6_leastOverSets 15 = .ok (.iload_n 3, 1) := by decide +kernel
theorem dX6_leastOverSets_16 : decode cX6_leastOverSets 16 = .ok (.invokestatic 57, 3) := by decide +kernel
theorem dX6_leastOverSets_19 : decode cX6_leastOverSets 19 = .ok (.istore 4, 2) := by decide +kernel
theorem dX6_leastOverSets_21 : decode cX6_leastOverSets 21 = .ok (.iload_n 3, 1) := by decide +kernel
theorem dX6_leastOverSets_22 : decode cX6_leastOverSets 22 = .ok (.aload_n 0, 1) := by decide +kernel
theorem dX6_leastOverSets_23 : decode cX6_leastOverSets 23 = .ok (.getfield 32, 3) := by decide +kernel
theorem dX6_leastOverSets_26 : decode cX6_leastOverSets 26 = .ok (.iconst (-1), 1) := by decide +kernel
theorem dX6_leastOverSets_27 : decode cX6_leastOverSets 27 = .ok (.ixor, 1) := by decide +kernel
theorem dX6_leastOverSets_28 : decode cX6_leastOverSets 28 = .ok (.iand, 1) := by decide +kernel
theorem dX6_leastOverSets_29 : decode cX6_leastOverSets 29 = .ok (.ifCond .ne 64, 3) := by decide +kernel
theorem dX6_leastOverSets_32 : decode cX6_leastOverSets 32 = .ok (.iload 4, 2) := by decide +kernel
theorem dX6_leastOverSets_34 : decode cX6_leastOverSets 34 = .ok (.aload_n 0, 1) := by decide +kernel
theorem dX6_leastOverSets_35 : decode cX6_leastOverSets 35 = .ok (.getfield 44, 3) := by decide +kernel
theorem dX6_leastOverSets_38 : decode cX6_leastOverSets 38 = .ok (.if_icmp .le 6, 3) := by decide +kernel
theorem dX6_leastOverSets_41 : decode cX6_leastOverSets 41 = .ok (.goto 52, 3) := by decide +kernel
theorem dX6_leastOverSets_44 : decode cX6_leastOverSets 44 = .ok (.aload_n 0, 1) := by decide +kernel
theorem dX6_leastOverSets_45 : decode cX6_leastOverSets 45 = .ok (.getfield 29, 3) := by decide +kernel
theorem dX6_leastOverSets_48 : decode cX6_leastOverSets 48 = .ok (.iload_n 3, 1) := by decide +kernel
theorem dX6_leastOverSets_49 : decode cX6_leastOverSets 49 = .ok (.iload 4, 2) := by decide +kernel
theorem dX6_leastOverSets_51 : decode cX6_leastOverSets 51 = .ok (.ifCond .ne 11, 3) := by decide +kernel
theorem dX6_leastOverSets_54 : decode cX6_leastOverSets 54 = .ok (.aload_n 0, 1) := by decide +kernel
theorem dX6_leastOverSets_55 : decode cX6_leastOverSets 55 = .ok (.aload_n 1, 1) := by decide +kernel
theorem dX6_leastOverSets_56 : decode cX6_leastOverSets 56 = .ok (.invokevirtual 71, 3) := by decide +kernel
theorem dX6_leastOverSets_59 : decode cX6_leastOverSets 59 = .ok (.goto 13, 3) := by decide +kernel
theorem dX6_leastOverSets_62 : decode cX6_leastOverSets 62 = .ok (.aload_n 0, 1) := by decide +kernel
theorem dX6_leastOverSets_63 : decode cX6_leastOverSets 63 = .ok (.aload_n 1, 1) := by decide +kernel
theorem dX6_leastOverSets_64 : decode cX6_leastOverSets 64 = .ok (.iload_n 3, 1) := by decide +kernel
theorem dX6_leastOverSets_65 : decode cX6_leastOverSets 65 = .ok (.iload 4, 2) := by decide +kernel
theorem dX6_leastOverSets_67 : decode cX6_leastOverSets 67 = .ok (.iconst 1, 1) := by decide +kernel
theorem dX6_leastOverSets_68 : decode cX6_leastOverSets 68 = .ok (.isub, 1) := by decide +kernel
theorem dX6_leastOverSets_69 : decode cX6_leastOverSets 69 = .ok (.invokevirtual 84, 3) := by decide +kernel
theorem dX6_leastOverSets_72 : decode cX6_leastOverSets 72 = .ok (.iastore, 1) := by decide +kernel
theorem dX6_leastOverSets_73 : decode cX6_leastOverSets 73 = .ok (.iload 4, 2) := by decide +kernel
theorem dX6_leastOverSets_75 : decode cX6_leastOverSets 75 = .ok (.aload_n 0, 1) := by decide +kernel
theorem dX6_leastOverSets_76 : decode cX6_leastOverSets 76 = .ok (.getfield 44, 3) := by decide +kernel
theorem dX6_leastOverSets_79 : decode cX6_leastOverSets 79 = .ok (.if_icmp .ne 14, 3) := by decide +kernel
theorem dX6_leastOverSets_82 : decode cX6_leastOverSets 82 = .ok (.iload_n 2, 1) := by decide +kernel
theorem dX6_leastOverSets_83 : decode cX6_leastOverSets 83 = .ok (.aload_n 0, 1) := by decide +kernel
theorem dX6_leastOverSets_84 : decode cX6_leastOverSets 84 = .ok (.getfield 29, 3) := by decide +kernel
theorem dX6_leastOverSets_87 : decode cX6_leastOverSets 87 = .ok (.iload_n 3, 1) := by decide +kernel
theorem dX6_leastOverSets_88 : decode cX6_leastOverSets 88 = .ok (.iaload, 1) := by decide +kernel
theorem dX6_leastOverSets_89 : decode cX6_leastOverSets 89 = .ok (.invokestatic 88, 3) := by decide +kernel
theorem dX6_leastOverSets_92 : decode cX6_leastOverSets 92 = .ok (.istore_n 2, 1) := by decide +kernel
theorem dX6_leastOverSets_93 : decode cX6_leastOverSets 93 = .ok (.iinc 3 1, 3) := by decide +kernel
theorem dX6_leastOverSets_96 : decode cX6_leastOverSets 96 = .ok (.goto (-91), 3) := by decide +kernel
theorem dX6_leastOverSets_99 : decode cX6_leastOverSets 99 = .ok (.iload_n 2, 1) := by decide +kernel
theorem dX6_leastOverSets_100 : decode cX6_leastOverSets 100 = .ok (.ireturn, 1) := by decide +kernel
theorem dX6_leastWithLast_0 : decode cX6_leastWithLast 0 = .ok (.ldc 63, 2) := by decide +kernel
theorem dX6_leastWithLast_2 : decode cX6_leastWithLast 2 = .ok (.istore 4, 2) := by decide +kernel
theorem dX6_leastWithLast_4 : decode cX6_leastWithLast 4 = .ok (.iconst 0, 1) := by decide +kernel
theorem dX6_leastWithLast_5 : decode cX6_leastWithLast 5 = .ok (.istore 5, 2) := by decide +kernel
theorem dX6_leastWithLast_7 : decode cX6_leastWithLast 7 = .ok (.iload 5, 2) := by decide +kernel
theorem dX6_leastWithLast_9 : decode cX6_leastWithLast 9 = .ok (.aload_n 1, 1) := by decide +kernel
theorem dX6_leastWithLast_10 : decode cX6_leastWithLast 10 = .ok (.getfield 36, 3) := by decide +kernel
theorem dX6_leastWithLast_13 : decode cX6_leastWithLast 13 = .ok (.if_icmp .ge 91, 3) := by decide +kernel
theorem dX6_leastWithLast_16 : decode cX6_leastWithLast 16 = .ok (.iload_n 2, 1) := by decide +kernel
theorem dX6_leastWithLast_17 : decode cX6_leastWithLast 17 = .ok (.iload 5, 2) := by decide +kernel
theorem dX6_leastWithLast_19 : decode cX6_leastWithLast 19 = .ok (.ishr, 1) := by decide +kernel
theorem dX6_leastWithLast_20 : decode cX6_leastWithLast 20 = .ok (.iconst 1, 1) := by decide +kernel
theorem dX6_leastWithLast_21 : decode cX6_leastWithLast 21 = .ok (.iand, 1) := by decide +kernel
theorem dX6_leastWithLast_22 : decode cX6_leastWithLast 22 = .ok (.ifCond .eq 76, 3) := by decide +kernel
theorem dX6_leastWithLast_25 : decode cX6_leastWithLast 25 = .ok (.aload_n 0, 1) := by decide +kernel
theorem dX6_leastWithLast_26 : decode cX6_leastWithLast 26 = .ok (.getfield 11, 3) := by decide +kernel
theorem dX6_leastWithLast_29 : decode cX6_leastWithLast 29 = .ok (.iload 5, 2) := by decide +kernel
theorem dX6_leastWithLast_31 : decode cX6_leastWithLast 31 = .ok (.aaload, 1) := by decide +kernel
theorem dX6_leastWithLast_32 : decode cX6_leastWithLast 32 = .ok (.aload_n 0, 1) := by decide +kernel
theorem dX6_leastWithLast_33 : decode cX6_leastWithLast 33 = .ok (.getfield 16, 3) := by decide +kernel
theorem dX6_leastWithLast_36 : decode cX6_leastWithLast 36 = .ok (.iload_n 3, 1) := by decide +kernel
theorem dX6_leastWithLast_37 : decode cX6_leastWithLast 37 = .ok (.iaload, 1) := by decide +kernel
theorem dX6_leastWithLast_38 : decode cX6_leastWithLast 38 = .ok (.iaload, 1) := by decide +kernel
theorem dX6_leastWithLast_39 : decode cX6_leastWithLast 39 = .ok (.istore 6, 2) := by decide +kernel
theorem dX6_leastWithLast_41 : decode cX6_leastWithLast 41 = .ok (.iload 6, 2) := by decide +kernel
theorem dX6_leastWithLast_43 : decode cX6_leastWithLast 43 = .ok (.aload_n 0, 1) := by decide +kernel
theorem dX6_leastWithLast_44 : decode cX6_leastWithLast 44 = .ok (.getfield 20, 3) := by decide +kernel
theorem dX6_leastWithLast_47 : decode cX6_leastWithLast 47 = .ok (.iload_n 3, 1) := by decide +kernel
theorem dX6_leastWithLast_48 : decode cX6_leastWithLast 48 = .ok (.iaload, 1) := by decide +kernel
theorem dX6_leastWithLast_49 : decode cX6_leastWithLast 49 = .ok (.iadd, 1) := by decide +kernel
theorem dX6_leastWithLast_50 : decode cX6_leastWithLast 50 = .ok (.invokestatic 93, 3) := by decide +kernel
theorem dX6_leastWithLast_53 : decode cX6_leastWithLast 53 = .ok (.iload 6, 2) := by decide +kernel
theorem dX6_leastWithLast_55 : decode cX6_leastWithLast 55 = .ok (.invokestatic 93, 3) := by decide +kernel
theorem dX6_leastWithLast_58 : decode cX6_leastWithLast 58 = .ok (.isub, 1) := by decide +kernel
theorem dX6_leastWithLast_59 : decode cX6_leastWithLast 59 = .ok (.istore 7, 2) := by decide +kernel
theorem dX6_leastWithLast_61 : decode cX6_leastWithLast 61 = .ok (.aload_n 0, 1) := by decide +kernel
theorem dX6_leastWithLast_62 : decode cX6_leastWithLast 62 = .ok (.getfield 29, 3) := by decide +kernel
theorem dX6_leastWithLast_65 : decode cX6_leastWithLast 65 = .ok (.iload_n 2, 1) := by decide +kernel
theorem dX6_leastWithLast_66 : decode cX6_leastWithLast 66 = .ok (.iconst 1, 1) := by decide +kernel
theorem dX6_leastWithLast_67 : decode cX6_leastWithLast 67 = .ok (.iload 5, 2) := by decide +kernel
theorem dX6_leastWithLast_69 : decode cX6_leastWithLast 69 = .ok (.ishl, 1) := by decide +kernel
theorem dX6_leastWithLast_70 : decode cX6_leastWithLast 70 = .ok (.ixor, 1) := by decide +kernel
theorem dX6_leastWithLast_71 : decode cX6_leastWithLast 71 = .ok (.iaload, 1) := by decide +kernel
theorem dX6_leastWithLast_72 : decode cX6_leastWithLast 72 = .ok (.iload 7, 2) := by decide +kernel
theorem dX6_leastWithLast_74 : decode cX6_leastWithLast 74 = .ok (.aload_n 1, 1) := by decide +kernel
theorem dX6_leastWithLast_75 : decode cX6_leastWithLast 75 = .ok (.getfield 81, 3) := by decide +kernel
theorem dX6_leastWithLast_78 : decode cX6_leastWithLast 78 = .ok (.aload_n 0, 1) := by decide +kernel
theorem dX6_leastWithLast_79 : decode cX6_leastWithLast 79 = .ok (.getfield 16, 3) := by decide +kernel
theorem dX6_leastWithLast_82 : decode cX6_leastWithLast 82 = .ok (.iload_n 3, 1) := by decide +kernel
theorem dX6_leastWithLast_83 : decode cX6_leastWithLast 83 = .ok (.iaload, 1) := by decide +kernel
theorem dX6_leastWithLast_84 : decode cX6_leastWithLast 84 = .ok (.iaload, 1) := by decide +kernel
theorem dX6_leastWithLast_85 : decode cX6_leastWithLast 85 = .ok (.imul, 1) := by decide +kernel
theorem dX6_leastWithLast_86 : decode cX6_leastWithLast 86 = .ok (.iadd, 1) := by decide +kernel
theorem dX6_leastWithLast_87 : decode cX6_leastWithLast 87 = .ok (.istore 8, 2) := by decide +kernel
theorem dX6_leastWithLast_89 : decode cX6_leastWithLast 89 = .ok (.iload 4, 2) := by decide +kernel
theorem dX6_leastWithLast_91 : decode cX6_leastWithLast 91 = .ok (.iload 8, 2) := by decide +kernel
theorem dX6_leastWithLast_93 : decode cX6_leastWithLast 93 = .ok (.invokestatic 88, 3) := by decide +kernel
theorem dX6_leastWithLast_96 : decode cX6_leastWithLast 96 = .ok (.istore 4, 2) := by decide +kernel
theorem dX6_leastWithLast_98 : decode cX6_leastWithLast 98 = .ok (.iinc 5 1, 3) := by decide +kernel
theorem dX6_leastWithLast_101 : decode cX6_leastWithLast 101 = .ok (.goto (-94), 3) := by decide +kernel
theorem dX6_leastWithLast_104 : decode cX6_leastWithLast 104 = .ok (.iload 4, 2) := by decide +kernel
theorem dX6_leastWithLast_106 : decode cX6_leastWithLast 106 = .ok (.ireturn, 1) := by decide +kernel
theorem dX6_takerOn_0 : decode cX6_takerOn 0 = .ok (.iconst 0, 1) := by decide +kernel
theorem dX6_takerOn_1 : decode cX6_takerOn 1 = .ok (.istore_n 2, 1) := by decide +kernel
theorem dX6_takerOn_2 : decode cX6_takerOn 2 = .ok (.iload_n 2, 1) := by decide +kernel
theorem dX6_takerOn_3 : decode cX6_takerOn 3 = .ok (.aload_n 0, 1) := by decide +kernel
theorem dX6_takerOn_4 : decode cX6_takerOn 4 = .ok (.getfield 44, 3) := by decide +kernel
theorem dX6_takerOn_7 : decode cX6_takerOn 7 = .ok (.if_icmp .ge 26, 3) := by decide +kernel
theorem dX6_takerOn_10 : decode cX6_takerOn 10 = .ok (.aload_n 0, 1) := by decide +kernel
theorem dX6_takerOn_11 : decode cX6_takerOn 11 = .ok (.getfield 16, 3) := by decide +kernel
theorem dX6_takerOn_14 : decode cX6_takerOn 14 = .ok (.iload_n 2, 1) := by decide +kernel
theorem dX6_takerOn_15 : decode cX6_takerOn 15 = .ok (.iaload, 1) := by decide +kernel
theorem dX6_takerOn_16 : decode cX6_takerOn 16 = .ok (.iload_n 1, 1) := by decide +kernel
theorem dX6_takerOn_17 : decode cX6_takerOn 17 = .ok (.if_icmp .ne 10, 3) := by decide +kernel
theorem dX6_takerOn_20 : decode cX6_takerOn 20 = .ok (.aload_n 0, 1) := by decide +kernel
theorem dX6_takerOn_21 : decode cX6_takerOn 21 = .ok (.getfield 26, 3) := by decide +kernel
theorem dX6_takerOn_24 : decode cX6_takerOn 24 = .ok (.iload_n 2, 1) := by decide +kernel
theorem dX6_takerOn_25 : decode cX6_takerOn 25 = .ok (.iaload, 1) := by decide +kernel
theorem dX6_takerOn_26 : decode cX6_takerOn 26 = .ok (.ireturn, 1) := by decide +kernel
theorem dX6_takerOn_27 : decode cX6_takerOn 27 = .ok (.iinc 2 1, 3) := by decide +kernel
theorem dX6_takerOn_30 : decode cX6_takerOn 30 = .ok (.goto (-28), 3) := by decide +kernel
theorem dX6_takerOn_33 : decode cX6_takerOn 33 = .ok (.iconst (-1), 1) := by decide +kernel
theorem dX6_takerOn_34 : decode cX6_takerOn 34 = .ok (.ireturn, 1) := by decide +kernel
