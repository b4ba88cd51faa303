theorem dX5_init_0 : decode cX5_init 0 = .ok (.aload_n 0, 1) := by decide +kernel
theorem dX5_init_1 : decode cX5_init 1 = .ok (.invokespecial 3, 3) := by decide +kernel
theorem dX5_init_4 : decode cX5_init 4 = .ok (.aload_n 0, 1) := by decide +kernel
theorem dX5_init_5 : decode cX5_init 5 = .ok (.bipush 6, 2) := by decide +kernel
theorem dX5_init_7 : decode cX5_init 7 = .ok (.newarray .int, 2) := by decide +kernel
theorem dX5_init_9 : decode cX5_init 9 = .ok (.putfield 9, 3) := by decide +kernel
theorem dX5_init_12 : decode cX5_init 12 = .ok (.aload_n 0, 1) := by decide +kernel
theorem dX5_init_13 : decode cX5_init 13 = .ok (.bipush 64, 2) := by decide +kernel
theorem dX5_init_15 : decode cX5_init 15 = .ok (.newarray .int, 2) := by decide +kernel
theorem dX5_init_17 : decode cX5_init 17 = .ok (.putfield 15, 3) := by decide +kernel
theorem dX5_init_20 : decode cX5_init 20 = .ok (.aload_n 0, 1) := by decide +kernel
theorem dX5_init_21 : decode cX5_init 21 = .ok (.bipush 6, 2) := by decide +kernel
theorem dX5_init_23 : decode cX5_init 23 = .ok (.newarray .int, 2) := by decide +kernel
theorem dX5_init_25 : decode cX5_init 25 = .ok (.putfield 18, 3) := by decide +kernel
theorem dX5_init_28 : decode cX5_init 28 = .ok (.return_, 1) := by decide +kernel
theorem dX5_collect_0 : decode cX5_collect 0 = .ok (.aload_n 0, 1) := by decide +kernel
theorem dX5_collect_1 : decode cX5_collect 1 = .ok (.iconst 0, 1) := by decide +kernel
theorem dX5_collect_2 : decode cX5_collect 2 = .ok (.putfield 21, 3) := by decide +kernel
theorem dX5_collect_5 : decode cX5_collect 5 = .ok (.iconst 0, 1) := by decide +kernel
theorem dX5_collect_6 : decode cX5_collect 6 = .ok (.istore_n 2, 1) := by decide +kernel
theorem dX5_collect_7 : decode cX5_collect 7 = .ok (.iload_n 2, 1) := by decide +kernel
theorem dX5_collect_8 : decode cX5_collect 8 = .ok (.aload_n 1, 1) := by decide +kernel
theorem dX5_collect_9 : decode cX5_collect 9 = .ok (.getfield 25, 3) := by decide +kernel
theorem dX5_collect_12 : decode cX5_collect 12 = .ok (.if_icmp .ge 39, 3) := by decide +kernel
theorem dX5_collect_15 : decode cX5_collect 15 = .ok (.aload_n 1, 1) := by decide +kernel
theorem dX5_collect_16 : decode cX5_collect 16 = .ok (.iload_n 2, 1) := by decide +kernel
theorem dX5_collect_17 : decode cX5_collect 17 = .ok (.invokevirtual 30, 3) := by decide +kernel
theorem dX5_collect_20 : decode cX5_collect 20 = .ok (.istore_n 3, 1) := by decide +kernel
theorem dX5_collect_21 : decode cX5_collect 21 = .ok (.iload_n 3, 1) := by decide +kernel
theorem dX5_collect_22 : decode cX5_collect 22 = .ok (.ifCond .eq 23, 3) := by decide +kernel
theorem dX5_collect_25 : decode cX5_collect 25 = .ok (.aload_n 0, 1) := by decide +kernel
theorem dX5_collect_26 : decode cX5_collect 26 = .ok (.getfield 9, 3) := by decide +kernel
theorem dX5_collect_29 : decode cX5_collect 29 = .ok (.aload_n 0, 1) := by decide +kernel
theorem dX5_collect_30 : decode cX5_collect 30 = .ok (.getfield 21, 3) := by decide +kernel
theorem dX5_collect_33 : decode cX5_collect 33 = .ok (.iload_n 3, 1) := by decide +kernel
theorem dX5_collect_34 : decode cX5_collect 34 = .ok (.iastore, 1) := by decide +kernel
theorem dX5_collect_35 : decode cX5_collect 35 = .ok (.aload_n 0, 1) := by decide +kernel
theorem dX5_collect_36 : decode cX5_collect 36 = .ok (.dup, 1) := by decide +kernel
theorem dX5_collect_37 : decode cX5_collect 37 = .ok (.getfield 21, 3) := by decide +kernel
theorem dX5_collect_40 : decode cX5_collect 40 = .ok (.iconst 1, 1) := by decide +kernel
theorem dX5_collect_41 : decode cX5_collect 41 = .ok (.iadd, 1) := by decide +kernel
theorem dX5_collect_42 : decode cX5_collect 42 = .ok (.putfield 21, 3) := by decide +kernel
theorem dX5_collect_45 : decode cX5_collect 45 = .ok (.iinc 2 1, 3) := by decide +kernel
theorem dX5_collect_48 : decode cX5_collect 48 = .ok (.goto (-41), 3) := by decide +kernel
theorem dX5_collect_51 : decode cX5_collect 51 = .ok (.return_, 1) := by decide +kernel
theorem dX5_leastOverSets_0 : decode cX5_leastOverSets 0 = .ok (.aload_n 0, 1) := by decide +kernel
theorem dX5_leastOverSets_1 : decode cX5_leastOverSets 1 = .ok (.getfield 15, 3) := by decide +kernel
theorem dX5_leastOverSets_4 : decode cX5_leastOverSets 4 = .ok (.iconst 0, 1) := by decide +kernel
theorem dX5_leastOverSets_5 : decode cX5_leastOverSets 5 = .ok (.iconst 0, 1) := by decide +kernel
theorem dX5_leastOverSets_6 : decode cX5_leastOverSets 6 = .ok (.iastore, 1) := by decide +kernel
theorem dX5_leastOverSets_7 : decode cX5_leastOverSets 7 = .ok (.iconst 1, 1) := by decide +kernel
theorem dX5_leastOverSets_8 : decode cX5_leastOverSets 8 = .ok (.istore_n 1, 1) := by decide +kernel
theorem dX5_leastOverSets_9 : decode cX5_leastOverSets 9 = .ok (.iload_n 1, 1) := by decide +kernel
theorem dX5_leastOverSets_10 : decode cX5_leastOverSets 10 = .ok (.iconst 1, 1) := by decide +kernel
theorem dX5_leastOverSets_11 : decode cX5_leastOverSets 11 = .ok (.aload_n 0, 1) := by decide +kernel
theorem dX5_leastOverSets_12 : decode cX5_leastOverSets 12 = .ok (.getfield 21, 3) := by decide +kernel
theorem dX5_leastOverSets_15 : decode cX5_leastOverSets 15 = .ok (.ishl, 1) := by decide +kernel
theorem dX5_leastOverSets_16 : decode cX5_leastOverSets 16 = .ok (.if_icmp .ge 83, 3) := by decide +kernel
theorem dX5_leastOverSets_19 : decode cX5_leastOverSets 19 = .ok (.iconst 0, 1) := by decide +kernel
theorem dX5_leastOverSets_20 : decode cX5_leastOverSets 20 = .ok (.istore_n 2, 1) := by decide +kernel
theorem dX5_leastOverSets_21 : decode cX5_leastOverSets 21 = .ok (.iconst 0, 1) := by decide +kernel
theorem dX5_leastOverSets_22 : decode cX5_leastOverSets 22 = .ok (.istore_n 3, 1) := by decide +kernel
theorem dX5_leastOverSets_23 : decode cX5_leastOverSets 23 = .ok (.iconst 0, 1) := by decide +kernel
theorem dX5_leastOverSets_24 : decode cX5_leastOverSets 24 = .ok (.istore 4, 2) := by decide +kernel
theorem dX5_leastOverSets_26 : decode cX5_leastOverSets 26 = .ok (.iload 4, 2) := by decide +kernel
theorem dX5_leastOverSets_28 : decode cX5_leastOverSets 28 = .ok (.aload_n 0, 1) := by decide +kernel
theorem dX5_leastOverSets_29 : decode cX5_leastOverSets 29 = .ok (.getfield 21, 3) := by decide +kernel
theorem dX5_leastOverSets_32 : decode cX5_leastOverSets 32 = .ok (.if_icmp .ge 44, 3) := by decide +kernel
theorem dX5_leastOverSets_35 : decode cX5_leastOverSets 35 = .ok (.iload_n 1, 1) := by decide +kernel
theorem dX5_leastOverSets_36 : decode cX5_leastOverSets 36 = .ok (.iload 4, 2) := by decide +kernel
theorem dX5_leastOverSets_38 : decode cX5_leastOverSets 38 = .ok (.ishr, 1) := by decide +kernel
theorem dX5_leastOverSets_39 : decode cX5_leastOverSets 39 = .ok (.iconst 1, 1) := by decide +kernel
theorem dX5_leastOverSets_40 : decode cX5_leastOverSets 40 = .ok (.iand, 1) := by decide +kernel
theorem dX5_leastOverSets_41 : decode cX5_leastOverSets 41 = .ok (.ifCond .eq 29, 3) := by decide +kernel
theorem dX5_leastOverSets_44 : decode cX5_leastOverSets 44 = .ok (.iload_n 2, 1) := by decide +kernel
theorem dX5_leastOverSets_45 : decode cX5_leastOverSets 45 = .ok (.aload_n 0, 1) := by decide +kernel
theorem dX5_leastOverSets_46 : decode cX5_leastOverSets 46 = .ok (.getfield 9, 3) := by decide +kernel
theorem dX5_leastOverSets_49 : decode cX5_leastOverSets 49 = .ok (.iload 4, 2) := by decide +kernel
theorem dX5_leastOverSets_51 : decode cX5_leastOverSets 51 = .ok (.iaload, 1) := by decide +kernel
theorem dX5_leastOverSets_52 : decode cX5_leastOverSets 52 = .ok (.iadd, 1) := by decide +kernel
theorem dX5_leastOverSets_53 : decode cX5_leastOverSets 53 = .ok (.istore_n 2, 1) := by decide +kernel
theorem dX5_leastOverSets_54 : decode cX5_leastOverSets 54 = .ok (.iload_n 3, 1) := by decide +kernel
theorem dX5_leastOverSets_55 : decode cX5_leastOverSets 55 = .ok (.aload_n 0, 1) := by decide +kernel
theorem dX5_leastOverSets_56 : decode cX5_leastOverSets 56 = .ok (.getfield 15, 3) := by decide +kernel
theorem dX5_leastOverSets_59 : decode cX5_leastOverSets 59 = .ok (.iload_n 1, 1) := by decide +kernel
theorem dX5_leastOverSets_60 : decode cX5_leastOverSets 60 = .ok (.iconst 1, 1) := by decide +kernel
theorem dX5_leastOverSets_61 : decode cX5_leastOverSets 61 = .ok (.iload 4, 2) := by decide +kernel
theorem dX5_leastOverSets_63 : decode cX5_leastOverSets 63 = .ok (.ishl, 1) := by decide +kernel
theorem dX5_leastOverSets_64 : decode cX5_leastOverSets 64 = .ok (.ixor, 1) := by decide +kernel
theorem dX5_leastOverSets_65 : decode cX5_leastOverSets 65 = .ok (.iaload, 1) := by decide +kernel
theorem dX5_leastOverSets_66 : decode cX5_leastOverSets 66 = .ok (.invokestatic 34, 3) := by decide +kernel
theorem dX5_leastOverSets_69 : decode cX5_leastOverSets 69 = .ok (.istore_n 3, 1) := by decide +kernel
theorem dX5_leastOverSets_70 : decode cX5_leastOverSets 70 = .ok (.iinc 4 1, 3) := by decide +kernel
theorem dX5_leastOverSets_73 : decode cX5_leastOverSets 73 = .ok (.goto (-47), 3) := by decide +kernel
theorem dX5_leastOverSets_76 : decode cX5_leastOverSets 76 = .ok (.aload_n 0, 1) := by decide +kernel
theorem dX5_leastOverSets_77 : decode cX5_leastOverSets 77 = .ok (.getfield 15, 3) := by decide +kernel
theorem dX5_leastOverSets_80 : decode cX5_leastOverSets 80 = .ok (.iload_n 1, 1) := by decide +kernel
theorem dX5_leastOverSets_81 : decode cX5_leastOverSets 81 = .ok (.iload_n 2, 1) := by decide +kernel
theorem dX5_leastOverSets_82 : decode cX5_leastOverSets 82 = .ok (.ifCond .ne 9, 3) := by decide +kernel
theorem dX5_leastOverSets_85 : decode cX5_leastOverSets 85 = .ok (.iload_n 3, 1) := by decide +kernel
theorem dX5_leastOverSets_86 : decode cX5_leastOverSets 86 = .ok (.iconst 1, 1) := by decide +kernel
theorem dX5_leastOverSets_87 : decode cX5_leastOverSets 87 = .ok (.iadd, 1) := by decide +kernel
theorem dX5_leastOverSets_88 : decode cX5_leastOverSets 88 = .ok (.goto 4, 3) := by decide +kernel
theorem dX5_leastOverSets_91 : decode cX5_leastOverSets 91 = .ok (.iload_n 3, 1) := by decide +kernel
theorem dX5_leastOverSets_92 : decode cX5_leastOverSets 92 = .ok (.iastore, 1) := by decide +kernel
theorem dX5_leastOverSets_93 : decode cX5_leastOverSets 93 = .ok (.iinc 1 1, 3) := by decide +kernel
theorem dX5_leastOverSets_96 : decode cX5_leastOverSets 96 = .ok (.goto (-87), 3) := by decide +kernel
theorem dX5_leastOverSets_99 : decode cX5_leastOverSets 99 = .ok (.aload_n 0, 1) := by decide +kernel
theorem dX5_leastOverSets_100 : decode cX5_leastOverSets 100 = .ok (.getfield 21, 3) := by decide +kernel
theorem dX5_leastOverSets_103 : decode cX5_leastOverSets 103 = .ok (.aload_n 0, 1) := by decide +kernel
theorem dX5_leastOverSets_104 : decode cX5_leastOverSets 104 = .ok (.getfield 15, 3) := by decide +kernel
theorem dX5_leastOverSets_107 : decode cX5_leastOverSets 107 = .ok (.iconst 1, 1) := by decide +kernel
theorem dX5_leastOverSets_108 : decode cX5_leastOverSets 108 = .ok (.aload_n 0, 1) := by decide +kernel
theorem dX5_leastOverSets_109 : decode cX5_leastOverSets 109 = .ok (.getfield 21, 3) := by decide +kernel
theorem dX5_leastOverSets_112 : decode cX5_leastOverSets 112 = .ok (.ishl, 1) := by decide +kernel
theorem dX5_leastOverSets_113 : decode cX5_leastOverSets 113 = .ok (.iconst 1, 1) := by decide +kernel
theorem dX5_leastOverSets_114 : decode cX5_leastOverSets 114 = .ok (.isub, 1) := by decide +kernel
theorem dX5_leastOverSets_115 : decode cX5_leastOverSets 115 = .ok (.iaload, 1) := by decide +kernel
theorem dX5_leastOverSets_116 : decode cX5_leastOverSets 116 = .ok (.isub, 1) := by decide +kernel
theorem dX5_leastOverSets_117 : decode cX5_leastOverSets 117 = .ok (.ireturn, 1) := by decide +kernel
theorem dX5_leastOverGroups_0 : decode cX5_leastOverGroups 0 = .ok (.aload_n 0, 1) := by decide +kernel
theorem dX5_leastOverGroups_1 : decode cX5_leastOverGroups 1 = .ok (.iconst 0, 1) := by decide +kernel
theorem dX5_leastOverGroups_2 : decode cX5_leastOverGroups 2 = .ok (.putfield 40, 3) := by decide +kernel
theorem dX5_leastOverGroups_5 : decode cX5_leastOverGroups 5 = .ok (.aload_n 0, 1) := by decide +kernel
theorem dX5_leastOverGroups_6 : decode cX5_leastOverGroups 6 = .ok (.iconst 0, 1) := by decide +kernel
theorem dX5_leastOverGroups_7 : decode cX5_leastOverGroups 7 = .ok (.iconst 0, 1) := by decide +kernel
theorem dX5_leastOverGroups_8 : decode cX5_leastOverGroups 8 = .ok (.invokevirtual 43, 3) := by decide +kernel
theorem dX5_leastOverGroups_11 : decode cX5_leastOverGroups 11 = .ok (.aload_n 0, 1) := by decide +kernel
theorem dX5_leastOverGroups_12 : decode cX5_leastOverGroups 12 = .ok (.getfield 21, 3) := by decide +kernel
theorem dX5_leastOverGroups_15 : decode cX5_leastOverGroups 15 = .ok (.aload_n 0, 1) := by decide +kernel
theorem dX5_leastOverGroups_16 : decode cX5_leastOverGroups 16 = .ok (.getfield 40, 3) := by decide +kernel
theorem dX5_leastOverGroups_19 : decode cX5_leastOverGroups 19 = .ok (.isub, 1) := by decide +kernel
theorem dX5_leastOverGroups_20 : decode cX5_leastOverGroups 20 = .ok (.ireturn, 1) := by decide +kernel
theorem dX5_putIntoGroups_0 : decode cX5_putIntoGroups 0 = .ok (.iload_n 1, 1) := by decide +kernel
theorem dX5_putIntoGroups_1 : decode cX5_putIntoGroups 1 = .ok (.aload_n 0, 1) := by decide +kernel
theorem dX5_putIntoGroups_2 : decode cX5_putIntoGroups 2 = .ok (.getfield 21, 3) := by decide +kernel
theorem dX5_putIntoGroups_5 : decode cX5_putIntoGroups 5 = .ok (.if_icmp .lt 24, 3) := by decide +kernel
theorem dX5_putIntoGroups_8 : decode cX5_putIntoGroups 8 = .ok (.aload_n 0, 1) := by decide +kernel
theorem dX5_putIntoGroups_9 : decode cX5_putIntoGroups 9 = .ok (.iload_n 2, 1) := by decide +kernel
theorem dX5_putIntoGroups_10 : decode cX5_putIntoGroups 10 = .ok (.invokevirtual 47, 3) := by decide +kernel
theorem dX5_putIntoGroups_13 : decode cX5_putIntoGroups 13 = .ok (.ifCond .eq 15, 3) := by decide +kernel
theorem dX5_putIntoGroups_16 : decode cX5_putIntoGroups 16 = .ok (.aload_n 0, 1) := by decide +kernel
theorem dX5_putIntoGroups_17 : decode cX5_putIntoGroups 17 = .ok (.aload_n 0, 1) := by decide +kernel
theorem dX5_putIntoGroups_18 : decode cX5_putIntoGroups 18 = .ok (.getfield 40, 3) := by decide +kernel
theorem dX5_putIntoGroups_21 : decode cX5_putIntoGroups 21 = .ok (.iload_n 2, 1) := by decide +kernel
theorem dX5_putIntoGroups_22 : decode cX5_putIntoGroups 22 = .ok (.invokestatic 34, 3) := by decide +kernel
theorem dX5_putIntoGroups_25 : decode cX5_putIntoGroups 25 = .ok (.putfield 40, 3) := by decide +kernel
theorem dX5_putIntoGroups_28 : decode cX5_putIntoGroups 28 = .ok (.return_, 1) := by decide +kernel
theorem dX5_putIntoGroups_29 : decode cX5_putIntoGroups 29 = .ok (.iconst 0, 1) := by decide +kernel
theorem dX5_putIntoGroups_30 : decode cX5_putIntoGroups 30 = .ok (.istore_n 3, 1) := by decide +kernel
theorem dX5_putIntoGroups_31 : decode cX5_putIntoGroups 31 = .ok (.iload_n 3, 1) := by decide +kernel
theorem dX5_putIntoGroups_32 : decode cX5_putIntoGroups 32 = .ok (.iload_n 2, 1) := by decide +kernel
theorem dX5_putIntoGroups_33 : decode cX5_putIntoGroups 33 = .ok (.if_icmp .ge 47, 3) := by decide +kernel
theorem dX5_putIntoGroups_36 : decode cX5_putIntoGroups 36 = .ok (.aload_n 0, 1) := by decide +kernel
theorem dX5_putIntoGroups_37 : decode cX5_putIntoGroups 37 = .ok (.getfield 18, 3) := by decide +kernel
theorem dX5_putIntoGroups_40 : decode cX5_putIntoGroups 40 = .ok (.iload_n 3, 1) := by decide +kernel
theorem dX5_putIntoGroups_41 : decode cX5_putIntoGroups 41 = .ok (.dup2, 1) := by decide +kernel
theorem dX5_putIntoGroups_42 : decode cX5_putIntoGroups 42 = .ok (.iaload, 1) := by decide +kernel
theorem dX5_putIntoGroups_43 : decode cX5_putIntoGroups 43 = .ok (.aload_n 0, 1) := by decide +kernel
theorem dX5_putIntoGroups_44 : decode cX5_putIntoGroups 44 = .ok (.getfield 9, 3) := by decide +kernel
theorem dX5_putIntoGroups_47 : decode cX5_putIntoGroups 47 = .ok (.iload_n 1, 1) := by decide +kernel
theorem dX5_putIntoGroups_48 : decode cX5_putIntoGroups 48 = .ok (.iaload, 1) := by decide +kernel
theorem dX5_putIntoGroups_49 : decode cX5_putIntoGroups 49 = .ok (.iadd, 1) := by decide +kernel
theorem dX5_putIntoGroups_50 : decode cX5_putIntoGroups 50 = .ok (.iastore, 1) := by decide +kernel
theorem dX5_putIntoGroups_51 : decode cX5_putIntoGroups 51 = .ok (.aload_n 0, 1) := by decide +kernel
theorem dX5_putIntoGroups_52 : decode cX5_putIntoGroups 52 = .ok (.iload_n 1, 1) := by decide +kernel
theorem dX5_putIntoGroups_53 : decode cX5_putIntoGroups 53 = .ok (.iconst 1, 1) := by decide +kernel
theorem dX5_putIntoGroups_54 : decode cX5_putIntoGroups 54 = .ok (.iadd, 1) := by decide +kernel
theorem dX5_putIntoGroups_55 : decode cX5_putIntoGroups 55 = .ok (.iload_n 2, 1) := by decide +kernel
theorem dX5_putIntoGroups_56 : decode cX5_putIntoGroups 56 = .ok (.invokevirtual 43, 3) := by decide +kernel
theorem dX5_putIntoGroups_59 : decode cX5_putIntoGroups 59 = .ok (.aload_n 0, 1) := by decide +kernel
theorem dX5_putIntoGroups_60 : decode cX5_putIntoGroups 60 = .ok (.getfield 18, 3) := by decide +kernel
theorem dX5_putIntoGroups_63 : decode cX5_putIntoGroups 63 = .ok (.iload_n 3, 1) := by decide +kernel
theorem dX5_putIntoGroups_64 : decode cX5_putIntoGroups 64 = .ok (.dup2, 1) := by decide +kernel
theorem dX5_putIntoGroups_65 : decode cX5_putIntoGroups 65 = .ok (.iaload, 1) := by decide +kernel
theorem dX5_putIntoGroups_66 : decode cX5_putIntoGroups 66 = .ok (.aload_n 0, 1) := by decide +kernel
theorem dX5_putIntoGroups_67 : decode cX5_putIntoGroups 67 = .ok (.getfield 9, 3) := by decide +kernel
theorem dX5_putIntoGroups_70 : decode cX5_putIntoGroups 70 = .ok (.iload_n 1, 1) := by decide +kernel
theorem dX5_putIntoGroups_71 : decode cX5_putIntoGroups 71 = .ok (.iaload, 1) := by decide +kernel
theorem dX5_putIntoGroups_72 : decode cX5_putIntoGroups 72 = .ok (.isub, 1) := by decide +kernel
theorem dX5_putIntoGroups_73 : decode cX5_putIntoGroups 73 = .ok (.iastore, 1) := by decide +kernel
theorem dX5_putIntoGroups_74 : decode cX5_putIntoGroups 74 = .ok (.iinc 3 1, 3) := by decide +kernel
theorem dX5_putIntoGroups_77 : decode cX5_putIntoGroups 77 = .ok (.goto (-46), 3) := by decide +kernel
theorem dX5_putIntoGroups_80 : decode cX5_putIntoGroups 80 = .ok (.aload_n 0, 1) := by decide +kernel
theorem dX5_putIntoGroups_81 : decode cX5_putIntoGroups 81 = .ok (.getfield 18, 3) := by decide +kernel
theorem dX5_putIntoGroups_84 : decode cX5_putIntoGroups 84 = .ok (.iload_n 2, 1) := by decide +kernel
theorem dX5_putIntoGroups_85 : decode cX5_putIntoGroups 85 = .ok (.aload_n 0, 1) := by decide +kernel
theorem dX5_putIntoGroups_86 : decode cX5_putIntoGroups 86 = .ok (.getfield 9, 3) := by decide +kernel
theorem dX5_putIntoGroups_89 : decode cX5_putIntoGroups 89 = .ok (.iload_n 1, 1) := by decide +kernel
theorem dX5_putIntoGroups_90 : decode cX5_putIntoGroups 90 = .ok (.iaload, 1) := by decide +kernel
theorem dX5_putIntoGroups_91 : decode cX5_putIntoGroups 91 = .ok (.iastore, 1) := by decide +kernel
theorem dX5_putIntoGroups_92 : decode cX5_putIntoGroups 92 = .ok (.aload_n 0, 1) := by decide +kernel
theorem dX5_putIntoGroups_93 : decode cX5_putIntoGroups 93 = .ok (.iload_n 1, 1) := by decide +kernel
theorem dX5_putIntoGroups_94 : decode cX5_putIntoGroups 94 = .ok (.iconst 1, 1) := by decide +kernel
theorem dX5_putIntoGroups_95 : decode cX5_putIntoGroups 95 = .ok (.iadd, 1) := by decide +kernel
theorem dX5_putIntoGroups_96 : decode cX5_putIntoGroups 96 = .ok (.iload_n 2, 1) := by decide +kernel
theorem dX5_putIntoGroups_97 : decode cX5_putIntoGroups 97 = .ok (.iconst 1, 1) := by decide +kernel
theorem dX5_putIntoGroups_98 : decode cX5_putIntoGroups 98 = .ok (.iadd, 1) := by decide +kernel
theorem dX5_putIntoGroups_99 : decode cX5_putIntoGroups 99 = .ok (.invokevirtual 43, 3) := by decide +kernel
theorem dX5_putIntoGroups_102 : decode cX5_putIntoGroups 102 = .ok (.return_, 1) := by decide +kernel
theorem dX5_areSettled_0 : decode cX5_areSettled 0 = .ok (.iconst 0, 1) := by decide +kernel
theorem dX5_areSettled_1 : decode cX5_areSettled 1 = .ok (.istore_n 2, 1) := by decide +kernel
theorem dX5_areSettled_2 : decode cX5_areSettled 2 = .ok (.iload_n 2, 1) := by decide +kernel
theorem dX5_areSettled_3 : decode cX5_areSettled 3 = .ok (.iload_n 1, 1) := by decide +kernel
theorem dX5_areSettled_4 : decode cX5_areSettled 4 = .ok (.if_icmp .ge 20, 3) := by decide +kernel
theorem dX5_areSettled_7 : decode cX5_areSettled 7 = .ok (.aload_n 0, 1) := by decide +kernel
theorem dX5_areSettled_8 : decode cX5_areSettled 8 = .ok (.getfield 18, 3) := by decide +kernel
theorem dX5_areSettled_11 : decode cX5_areSettled 11 = .ok (.iload_n 2, 1) := by decide +kernel
theorem dX5_areSettled_12 : decode cX5_areSettled 12 = .ok (.iaload, 1) := by decide +kernel
theorem dX5_areSettled_13 : decode cX5_areSettled 13 = .ok (.ifCond .eq 5, 3) := by decide +kernel
theorem dX5_areSettled_16 : decode cX5_areSettled 16 = .ok (.iconst 0, 1) := by decide +kernel
theorem dX5_areSettled_17 : decode cX5_areSettled 17 = .ok (.ireturn, 1) := by decide +kernel
theorem dX5_areSettled_18 : decode cX5_areSettled 18 = .ok (.iinc 2 1, 3) := by decide +kernel
theorem dX5_areSettled_21 : decode cX5_areSettled 21 = .ok (.goto (-19), 3) := by decide +kernel
theorem dX5_areSettled_24 : decode cX5_areSettled 24 = .ok (.iconst 1, 1) := by decide +kernel
theorem dX5_areSettled_25 : decode cX5_areSettled 25 = .ok (.ireturn, 1) := by decide +kernel
