theorem dX8_init_0 : decode cX8_init 0 = .ok (.aload_n 0, 1) := by decide +kernel
theorem dX8_init_1 : decode cX8_init 1 = .ok (.invokespecial 1, 3) := by decide +kernel
theorem dX8_init_4 : decode cX8_init 4 = .ok (.aload_n 0, 1) := by decide +kernel
theorem dX8_init_5 : decode cX8_init 5 = .ok (.sipush 138, 3) := by decide +kernel
theorem dX8_init_8 : decode cX8_init 8 = .ok (.newarray .int, 2) := by decide +kernel
theorem dX8_init_10 : decode cX8_init 10 = .ok (.putfield 7, 3) := by decide +kernel
theorem dX8_init_13 : decode cX8_init 13 = .ok (.aload_n 0, 1) := by decide +kernel
theorem dX8_init_14 : decode cX8_init 14 = .ok (.sipush 1104, 3) := by decide +kernel
theorem dX8_init_17 : decode cX8_init 17 = .ok (.newarray .int, 2) := by decide +kernel
theorem dX8_init_19 : decode cX8_init 19 = .ok (.putfield 13, 3) := by decide +kernel
theorem dX8_init_22 : decode cX8_init 22 = .ok (.aload_n 0, 1) := by decide +kernel
theorem dX8_init_23 : decode cX8_init 23 = .ok (.sipush 138, 3) := by decide +kernel
theorem dX8_init_26 : decode cX8_init 26 = .ok (.newarray .int, 2) := by decide +kernel
theorem dX8_init_28 : decode cX8_init 28 = .ok (.putfield 16, 3) := by decide +kernel
theorem dX8_init_31 : decode cX8_init 31 = .ok (.aload_n 0, 1) := by decide +kernel
theorem dX8_init_32 : decode cX8_init 32 = .ok (.sipush 138, 3) := by decide +kernel
theorem dX8_init_35 : decode cX8_init 35 = .ok (.newarray .int, 2) := by decide +kernel
theorem dX8_init_37 : decode cX8_init 37 = .ok (.putfield 19, 3) := by decide +kernel
theorem dX8_init_40 : decode cX8_init 40 = .ok (.aload_n 0, 1) := by decide +kernel
theorem dX8_init_41 : decode cX8_init 41 = .ok (.bipush 60, 2) := by decide +kernel
theorem dX8_init_43 : decode cX8_init 43 = .ok (.newarray .int, 2) := by decide +kernel
theorem dX8_init_45 : decode cX8_init 45 = .ok (.putfield 22, 3) := by decide +kernel
theorem dX8_init_48 : decode cX8_init 48 = .ok (.aload_n 0, 1) := by decide +kernel
theorem dX8_init_49 : decode cX8_init 49 = .ok (.iconst (-1), 1) := by decide +kernel
theorem dX8_init_50 : decode cX8_init 50 = .ok (.putfield 25, 3) := by decide +kernel
theorem dX8_init_53 : decode cX8_init 53 = .ok (.aload_n 0, 1) := by decide +kernel
theorem dX8_init_54 : decode cX8_init 54 = .ok (.iconst (-1), 1) := by decide +kernel
theorem dX8_init_55 : decode cX8_init 55 = .ok (.putfield 29, 3) := by decide +kernel
theorem dX8_init_58 : decode cX8_init 58 = .ok (.aload_n 0, 1) := by decide +kernel
theorem dX8_init_59 : decode cX8_init 59 = .ok (.bipush 60, 2) := by decide +kernel
theorem dX8_init_61 : decode cX8_init 61 = .ok (.newarray .char, 2) := by decide +kernel
theorem dX8_init_63 : decode cX8_init 63 = .ok (.putfield 32, 3) := by decide +kernel
theorem dX8_init_66 : decode cX8_init 66 = .ok (.aload_n 0, 1) := by decide +kernel
theorem dX8_init_67 : decode cX8_init 67 = .ok (.iconst 4, 1) := by decide +kernel
theorem dX8_init_68 : decode cX8_init 68 = .ok (.newarray .int, 2) := by decide +kernel
theorem dX8_init_70 : decode cX8_init 70 = .ok (.putfield 36, 3) := by decide +kernel
theorem dX8_init_73 : decode cX8_init 73 = .ok (.aload_n 0, 1) := by decide +kernel
theorem dX8_init_74 : decode cX8_init 74 = .ok (.iconst 4, 1) := by decide +kernel
theorem dX8_init_75 : decode cX8_init 75 = .ok (.newarray .int, 2) := by decide +kernel
theorem dX8_init_77 : decode cX8_init 77 = .ok (.putfield 39, 3) := by decide +kernel
theorem dX8_init_80 : decode cX8_init 80 = .ok (.aload_n 0, 1) := by decide +kernel
theorem dX8_init_81 : decode cX8_init 81 = .ok (.bipush 6, 2) := by decide +kernel
theorem dX8_init_83 : decode cX8_init 83 = .ok (.newarray .int, 2) := by decide +kernel
theorem dX8_init_85 : decode cX8_init 85 = .ok (.putfield 42, 3) := by decide +kernel
theorem dX8_init_88 : decode cX8_init 88 = .ok (.aload_n 0, 1) := by decide +kernel
theorem dX8_init_89 : decode cX8_init 89 = .ok (.bipush 64, 2) := by decide +kernel
theorem dX8_init_91 : decode cX8_init 91 = .ok (.newarray .int, 2) := by decide +kernel
theorem dX8_init_93 : decode cX8_init 93 = .ok (.putfield 45, 3) := by decide +kernel
theorem dX8_init_96 : decode cX8_init 96 = .ok (.aload_n 0, 1) := by decide +kernel
theorem dX8_init_97 : decode cX8_init 97 = .ok (.bipush 64, 2) := by decide +kernel
theorem dX8_init_99 : decode cX8_init 99 = .ok (.newarray .int, 2) := by decide +kernel
theorem dX8_init_101 : decode cX8_init 101 = .ok (.putfield 48, 3) := by decide +kernel
theorem dX8_init_104 : decode cX8_init 104 = .ok (.aload_n 0, 1) := by decide +kernel
theorem dX8_init_105 : decode cX8_init 105 = .ok (.sipush 186, 3) := by decide +kernel
theorem dX8_init_108 : decode cX8_init 108 = .ok (.newarray .int, 2) := by decide +kernel
theorem dX8_init_110 : decode cX8_init 110 = .ok (.putfield 51, 3) := by decide +kernel
theorem dX8_init_113 : decode cX8_init 113 = .ok (.return_, 1) := by decide +kernel
theorem dX8_thrown_0 : decode cX8_thrown 0 = .ok (.aload_n 0, 1) := by decide +kernel
theorem dX8_thrown_1 : decode cX8_thrown 1 = .ok (.getfield 54, 3) := by decide +kernel
theorem dX8_thrown_4 : decode cX8_thrown 4 = .ok (.ireturn, 1) := by decide +kernel
theorem dX8_fails_0 : decode cX8_fails 0 = .ok (.aload_n 0, 1) := by decide +kernel
theorem dX8_fails_1 : decode cX8_fails 1 = .ok (.iload_n 1, 1) := by decide +kernel
theorem dX8_fails_2 : decode cX8_fails 2 = .ok (.putfield 54, 3) := by decide +kernel
theorem dX8_fails_5 : decode cX8_fails 5 = .ok (.iload_n 1, 1) := by decide +kernel
theorem dX8_fails_6 : decode cX8_fails 6 = .ok (.ifCond .le 7, 3) := by decide +kernel
theorem dX8_fails_9 : decode cX8_fails 9 = .ok (.iconst 1, 1) := by decide +kernel
theorem dX8_fails_10 : decode cX8_fails 10 = .ok (.goto 4, 3) := by decide +kernel
theorem dX8_fails_13 : decode cX8_fails 13 = .ok (.iconst 0, 1) := by decide +kernel
theorem dX8_fails_14 : decode cX8_fails 14 = .ok (.ireturn, 1) := by decide +kernel
theorem dX8_in_0 : decode cX8_in 0 = .ok (.iload_n 0, 1) := by decide +kernel
theorem dX8_in_1 : decode cX8_in 1 = .ok (.iload_n 1, 1) := by decide +kernel
theorem dX8_in_2 : decode cX8_in 2 = .ok (.if_icmp .lt 12, 3) := by decide +kernel
theorem dX8_in_5 : decode cX8_in 5 = .ok (.iload_n 0, 1) := by decide +kernel
theorem dX8_in_6 : decode cX8_in 6 = .ok (.iload_n 2, 1) := by decide +kernel
theorem dX8_in_7 : decode cX8_in 7 = .ok (.if_icmp .gt 7, 3) := by decide +kernel
theorem dX8_in_10 : decode cX8_in 10 = .ok (.iconst 1, 1) := by decide +kernel
theorem dX8_in_11 : decode cX8_in 11 = .ok (.goto 4, 3) := by decide +kernel
theorem dX8_in_14 : decode cX8_in 14 = .ok (.iconst 0, 1) := by decide +kernel
theorem dX8_in_15 : decode cX8_in 15 = .ok (.ireturn, 1) := by decide +kernel
theorem dX8_size_0 : decode cX8_size 0 = .ok (.iload_n 0, 1) := by decide +kernel
theorem dX8_size_1 : decode cX8_size 1 = .ok (.ifCond .ge 8, 3) := by decide +kernel
theorem dX8_size_4 : decode cX8_size 4 = .ok (.iload_n 0, 1) := by decide +kernel
theorem dX8_size_5 : decode cX8_size 5 = .ok (.ineg, 1) := by decide +kernel
theorem dX8_size_6 : decode cX8_size 6 = .ok (.goto 4, 3) := by decide +kernel
theorem dX8_size_9 : decode cX8_size 9 = .ok (.iload_n 0, 1) := by decide +kernel
theorem dX8_size_10 : decode cX8_size 10 = .ok (.ireturn, 1) := by decide +kernel
theorem dX8_copies_0 : decode cX8_copies 0 = .ok (.iconst 0, 1) := by decide +kernel
theorem dX8_copies_1 : decode cX8_copies 1 = .ok (.istore 4, 2) := by decide +kernel
theorem dX8_copies_3 : decode cX8_copies 3 = .ok (.iload 4, 2) := by decide +kernel
theorem dX8_copies_5 : decode cX8_copies 5 = .ok (.sipush 138, 3) := by decide +kernel
theorem dX8_copies_8 : decode cX8_copies 8 = .ok (.if_icmp .ge 21, 3) := by decide +kernel
theorem dX8_copies_11 : decode cX8_copies 11 = .ok (.aload_n 2, 1) := by decide +kernel
theorem dX8_copies_12 : decode cX8_copies 12 = .ok (.iload_n 3, 1) := by decide +kernel
theorem dX8_copies_13 : decode cX8_copies 13 = .ok (.iload 4, 2) := by decide +kernel
theorem dX8_copies_15 : decode cX8_copies 15 = .ok (.iadd, 1) := by decide +kernel
theorem dX8_copies_16 : decode cX8_copies 16 = .ok (.aload_n 0, 1) := by decide +kernel
theorem dX8_copies_17 : decode cX8_copies 17 = .ok (.iload_n 1, 1) := by decide +kernel
theorem dX8_copies_18 : decode cX8_copies 18 = .ok (.iload 4, 2) := by decide +kernel
theorem dX8_copies_20 : decode cX8_copies 20 = .ok (.iadd, 1) := by decide +kernel
theorem dX8_copies_21 : decode cX8_copies 21 = .ok (.iaload, 1) := by decide +kernel
theorem dX8_copies_22 : decode cX8_copies 22 = .ok (.iastore, 1) := by decide +kernel
theorem dX8_copies_23 : decode cX8_copies 23 = .ok (.iinc 4 1, 3) := by decide +kernel
theorem dX8_copies_26 : decode cX8_copies 26 = .ok (.goto (-23), 3) := by decide +kernel
theorem dX8_copies_29 : decode cX8_copies 29 = .ok (.return_, 1) := by decide +kernel
theorem dX8_keeps_0 : decode cX8_keeps 0 = .ok (.aload_n 0, 1) := by decide +kernel
theorem dX8_keeps_1 : decode cX8_keeps 1 = .ok (.iconst 0, 1) := by decide +kernel
theorem dX8_keeps_2 : decode cX8_keeps 2 = .ok (.putfield 54, 3) := by decide +kernel
theorem dX8_keeps_5 : decode cX8_keeps 5 = .ok (.aload_n 0, 1) := by decide +kernel
theorem dX8_keeps_6 : decode cX8_keeps 6 = .ok (.getfield 57, 3) := by decide +kernel
theorem dX8_keeps_9 : decode cX8_keeps 9 = .ok (.ifCond .eq 4, 3) := by decide +kernel
theorem dX8_keeps_12 : decode cX8_keeps 12 = .ok (.return_, 1) := by decide +kernel
theorem dX8_keeps_13 : decode cX8_keeps 13 = .ok (.aload_n 0, 1) := by decide +kernel
theorem dX8_keeps_14 : decode cX8_keeps 14 = .ok (.getfield 61, 3) := by decide +kernel
theorem dX8_keeps_17 : decode cX8_keeps 17 = .ok (.bipush 8, 2) := by decide +kernel
theorem dX8_keeps_19 : decode cX8_keeps 19 = .ok (.if_icmp .ne 44, 3) := by decide +kernel
theorem dX8_keeps_22 : decode cX8_keeps 22 = .ok (.iconst 0, 1) := by decide +kernel
theorem dX8_keeps_23 : decode cX8_keeps 23 = .ok (.istore_n 2, 1) := by decide +kernel
theorem dX8_keeps_24 : decode cX8_keeps 24 = .ok (.iload_n 2, 1) := by decide +kernel
theorem dX8_keeps_25 : decode cX8_keeps 25 = .ok (.sipush 966, 3) := by decide +kernel
theorem dX8_keeps_28 : decode cX8_keeps 28 = .ok (.if_icmp .ge 25, 3) := by decide +kernel
theorem dX8_keeps_31 : decode cX8_keeps 31 = .ok (.aload_n 0, 1) := by decide +kernel
theorem dX8_keeps_32 : decode cX8_keeps 32 = .ok (.getfield 13, 3) := by decide +kernel
theorem dX8_keeps_35 : decode cX8_keeps 35 = .ok (.iload_n 2, 1) := by decide +kernel
theorem dX8_keeps_36 : decode cX8_keeps 36 = .ok (.aload_n 0, 1) := by decide +kernel
theorem dX8_keeps_37 : decode cX8_keeps 37 = .ok (.getfield 13, 3) := by decide +kernel
theorem dX8_keeps_40 : decode cX8_keeps 40 = .ok (.iload_n 2, 1) := by decide +kernel
theorem dX8_keeps_41 : decode cX8_keeps 41 = .ok (.sipush 138, 3) := by decide +kernel
theorem dX8_keeps_44 : decode cX8_keeps 44 = .ok (.iadd, 1) := by decide +kernel
theorem dX8_keeps_45 : decode cX8_keeps 45 = .ok (.iaload, 1) := by decide +kernel
theorem dX8_keeps_46 : decode cX8_keeps 46 = .ok (.iastore, 1) := by decide +kernel
theorem dX8_keeps_47 : decode cX8_keeps 47 = .ok (.iinc 2 1, 3) := by decide +kernel
theorem dX8_keeps_50 : decode cX8_keeps 50 = .ok (.goto (-26), 3) := by decide +kernel
theorem dX8_keeps_53 : decode cX8_keeps 53 = .ok (.aload_n 0, 1) := by decide +kernel
theorem dX8_keeps_54 : decode cX8_keeps 54 = .ok (.dup, 1) := by decide +kernel
theorem dX8_keeps_55 : decode cX8_keeps 55 = .ok (.getfield 61, 3) := by decide +kernel
theorem dX8_keeps_58 : decode cX8_keeps 58 = .ok (.iconst 1, 1) := by decide +kernel
theorem dX8_keeps_59 : decode cX8_keeps 59 = .ok (.isub, 1) := by decide +kernel
theorem dX8_keeps_60 : decode cX8_keeps 60 = .ok (.putfield 61, 3) := by decide +kernel
theorem dX8_keeps_63 : decode cX8_keeps 63 = .ok (.aload_n 1, 1) := by decide +kernel
theorem dX8_keeps_64 : decode cX8_keeps 64 = .ok (.iconst 0, 1) := by decide +kernel
theorem dX8_keeps_65 : decode cX8_keeps 65 = .ok (.aload_n 0, 1) := by decide +kernel
theorem dX8_keeps_66 : decode cX8_keeps 66 = .ok (.getfield 13, 3) := by decide +kernel
theorem dX8_keeps_69 : decode cX8_keeps 69 = .ok (.sipush 138, 3) := by decide +kernel
theorem dX8_keeps_72 : decode cX8_keeps 72 = .ok (.aload_n 0, 1) := by decide +kernel
theorem dX8_keeps_73 : decode cX8_keeps 73 = .ok (.getfield 61, 3) := by decide +kernel
theorem dX8_keeps_76 : decode cX8_keeps 76 = .ok (.imul, 1) := by decide +kernel
theorem dX8_keeps_77 : decode cX8_keeps 77 = .ok (.invokestatic 64, 3) := by decide +kernel
theorem dX8_keeps_80 : decode cX8_keeps 80 = .ok (.aload_n 0, 1) := by decide +kernel
theorem dX8_keeps_81 : decode cX8_keeps 81 = .ok (.dup, 1) := by decide +kernel
theorem dX8_keeps_82 : decode cX8_keeps 82 = .ok (.getfield 61, 3) := by decide +kernel
theorem dX8_keeps_85 : decode cX8_keeps 85 = .ok (.iconst 1, 1) := by decide +kernel
theorem dX8_keeps_86 : decode cX8_keeps 86 = .ok (.iadd, 1) := by decide +kernel
theorem dX8_keeps_87 : decode cX8_keeps 87 = .ok (.putfield 61, 3) := by decide +kernel
theorem dX8_keeps_90 : decode cX8_keeps 90 = .ok (.return_, 1) := by decide +kernel
theorem dX8_isHorizon_0 : decode cX8_isHorizon 0 = .ok (.iload_n 1, 1) := by decide +kernel
theorem dX8_isHorizon_1 : decode cX8_isHorizon 1 = .ok (.iconst 0, 1) := by decide +kernel
theorem dX8_isHorizon_2 : decode cX8_isHorizon 2 = .ok (.aload_n 0, 1) := by decide +kernel
theorem dX8_isHorizon_3 : decode cX8_isHorizon 3 = .ok (.getfield 7, 3) := by decide +kernel
theorem dX8_isHorizon_6 : decode cX8_isHorizon 6 = .ok (.iconst 0, 1) := by decide +kernel
theorem dX8_isHorizon_7 : decode cX8_isHorizon 7 = .ok (.iaload, 1) := by decide +kernel
theorem dX8_isHorizon_8 : decode cX8_isHorizon 8 = .ok (.iconst 1, 1) := by decide +kernel
theorem dX8_isHorizon_9 : decode cX8_isHorizon 9 = .ok (.isub, 1) := by decide +kernel
theorem dX8_isHorizon_10 : decode cX8_isHorizon 10 = .ok (.invokestatic 68, 3) := by decide +kernel
theorem dX8_isHorizon_13 : decode cX8_isHorizon 13 = .ok (.ireturn, 1) := by decide +kernel
theorem dX8_isTrader_0 : decode cX8_isTrader 0 = .ok (.iload_n 1, 1) := by decide +kernel
theorem dX8_isTrader_1 : decode cX8_isTrader 1 = .ok (.iconst 0, 1) := by decide +kernel
theorem dX8_isTrader_2 : decode cX8_isTrader 2 = .ok (.aload_n 0, 1) := by decide +kernel
theorem dX8_isTrader_3 : decode cX8_isTrader 3 = .ok (.getfield 7, 3) := by decide +kernel
theorem dX8_isTrader_6 : decode cX8_isTrader 6 = .ok (.iconst 1, 1) := by decide +kernel
theorem dX8_isTrader_7 : decode cX8_isTrader 7 = .ok (.iaload, 1) := by decide +kernel
theorem dX8_isTrader_8 : decode cX8_isTrader 8 = .ok (.iconst 1, 1) := by decide +kernel
theorem dX8_isTrader_9 : decode cX8_isTrader 9 = .ok (.isub, 1) := by decide +kernel
theorem dX8_isTrader_10 : decode cX8_isTrader 10 = .ok (.invokestatic 68, 3) := by decide +kernel
theorem dX8_isTrader_13 : decode cX8_isTrader 13 = .ok (.ireturn, 1) := by decide +kernel
theorem dX8_isContract_0 : decode cX8_isContract 0 = .ok (.iload_n 1, 1) := by decide +kernel
theorem dX8_isContract_1 : decode cX8_isContract 1 = .ok (.iconst 0, 1) := by decide +kernel
theorem dX8_isContract_2 : decode cX8_isContract 2 = .ok (.aload_n 0, 1) := by decide +kernel
theorem dX8_isContract_3 : decode cX8_isContract 3 = .ok (.getfield 7, 3) := by decide +kernel
theorem dX8_isContract_6 : decode cX8_isContract 6 = .ok (.iconst 2, 1) := by decide +kernel
theorem dX8_isContract_7 : decode cX8_isContract 7 = .ok (.iaload, 1) := by decide +kernel
theorem dX8_isContract_8 : decode cX8_isContract 8 = .ok (.iconst 1, 1) := by decide +kernel
theorem dX8_isContract_9 : decode cX8_isContract 9 = .ok (.isub, 1) := by decide +kernel
theorem dX8_isContract_10 : decode cX8_isContract 10 = .ok (.invokestatic 68, 3) := by decide +kernel
theorem dX8_isContract_13 : decode cX8_isContract 13 = .ok (.ireturn, 1) := by decide +kernel
theorem dX8_on_0 : decode cX8_on 0 = .ok (.aload_n 0, 1) := by decide +kernel
theorem dX8_on_1 : decode cX8_on 1 = .ok (.getfield 7, 3) := by decide +kernel
theorem dX8_on_4 : decode cX8_on 4 = .ok (.bipush 6, 2) := by decide +kernel
theorem dX8_on_6 : decode cX8_on 6 = .ok (.iconst 3, 1) := by decide +kernel
theorem dX8_on_7 : decode cX8_on 7 = .ok (.iload_n 1, 1) := by decide +kernel
theorem dX8_on_8 : decode cX8_on 8 = .ok (.imul, 1) := by decide +kernel
theorem dX8_on_9 : decode cX8_on 9 = .ok (.iadd, 1) := by decide +kernel
theorem dX8_on_10 : decode cX8_on 10 = .ok (.iload_n 2, 1) := by decide +kernel
theorem dX8_on_11 : decode cX8_on 11 = .ok (.iadd, 1) := by decide +kernel
theorem dX8_on_12 : decode cX8_on 12 = .ok (.iaload, 1) := by decide +kernel
theorem dX8_on_13 : decode cX8_on 13 = .ok (.ireturn, 1) := by decide +kernel
theorem dX8_of_0 : decode cX8_of 0 = .ok (.aload_n 0, 1) := by decide +kernel
theorem dX8_of_1 : decode cX8_of 1 = .ok (.getfield 7, 3) := by decide +kernel
theorem dX8_of_4 : decode cX8_of 4 = .ok (.bipush 18, 2) := by decide +kernel
theorem dX8_of_6 : decode cX8_of 6 = .ok (.iconst 3, 1) := by decide +kernel
theorem dX8_of_7 : decode cX8_of 7 = .ok (.iload_n 1, 1) := by decide +kernel
theorem dX8_of_8 : decode cX8_of 8 = .ok (.imul, 1) := by decide +kernel
theorem dX8_of_9 : decode cX8_of 9 = .ok (.iadd, 1) := by decide +kernel
theorem dX8_of_10 : decode cX8_of 10 = .ok (.iload_n 2, 1) := by decide +kernel
theorem dX8_of_11 : decode cX8_of 11 = .ok (.iadd, 1) := by decide +kernel
theorem dX8_of_12 : decode cX8_of 12 = .ok (.iaload, 1) := by decide +kernel
theorem dX8_of_13 : decode cX8_of 13 = .ok (.ireturn, 1) := by decide +kernel
theorem dX8_lays_0 : decode cX8_lays 0 = .ok (.aload_n 0, 1) := by decide +kernel
theorem dX8_lays_1 : decode cX8_lays 1 = .ok (.getfield 7, 3) := by decide +kernel
theorem dX8_lays_4 : decode cX8_lays 4 = .ok (.bipush 18, 2) := by decide +kernel
theorem dX8_lays_6 : decode cX8_lays 6 = .ok (.iconst 3, 1) := by decide +kernel
theorem dX8_lays_7 : decode cX8_lays 7 = .ok (.iload_n 1, 1) := by decide +kernel
theorem dX8_lays_8 : decode cX8_lays 8 = .ok (.imul, 1) := by decide +kernel
theorem dX8_lays_9 : decode cX8_lays 9 = .ok (.iadd, 1) := by decide +kernel
theorem dX8_lays_10 : decode cX8_lays 10 = .ok (.iload_n 2, 1) := by decide +kernel
theorem dX8_lays_11 : decode cX8_lays 11 = .ok (.iadd, 1) := by decide +kernel
theorem dX8_lays_12 : decode cX8_lays 12 = .ok (.iload_n 3, 1) := by decide +kernel
theorem dX8_lays_13 : decode cX8_lays 13 = .ok (.iastore, 1) := by decide +kernel
theorem dX8_lays_14 : decode cX8_lays 14 = .ok (.return_, 1) := by decide +kernel
theorem dX8_by_0 : decode cX8_by 0 = .ok (.aload_n 0, 1) := by decide +kernel
theorem dX8_by_1 : decode cX8_by 1 = .ok (.getfield 7, 3) := by decide +kernel
theorem dX8_by_4 : decode cX8_by 4 = .ok (.bipush 36, 2) := by decide +kernel
theorem dX8_by_6 : decode cX8_by 6 = .ok (.iconst 5, 1) := by decide +kernel
theorem dX8_by_7 : decode cX8_by 7 = .ok (.iload_n 1, 1) := by decide +kernel
theorem dX8_by_8 : decode cX8_by 8 = .ok (.imul, 1) := by decide +kernel
theorem dX8_by_9 : decode cX8_by 9 = .ok (.iadd, 1) := by decide +kernel
theorem dX8_by_10 : decode cX8_by 10 = .ok (.iload_n 2, 1) := by decide +kernel
theorem dX8_by_11 : decode cX8_by 11 = .ok (.iadd, 1) := by decide +kernel
theorem dX8_by_12 : decode cX8_by 12 = .ok (.iaload, 1) := by decide +kernel
theorem dX8_by_13 : decode cX8_by 13 = .ok (.ireturn, 1) := by decide +kernel
theorem dX8_puts_0 : decode cX8_puts 0 = .ok (.aload_n 0, 1) := by decide +kernel
theorem dX8_puts_1 : decode cX8_puts 1 = .ok (.getfield 7, 3) := by decide +kernel
theorem dX8_puts_4 : decode cX8_puts 4 = .ok (.bipush 36, 2) := by decide +kernel
theorem dX8_puts_6 : decode cX8_puts 6 = .ok (.iconst 5, 1) := by decide +kernel
theorem dX8_puts_7 : decode cX8_puts 7 = .ok (.iload_n 1, 1) := by decide +kernel
theorem dX8_puts_8 : decode cX8_puts 8 = .ok (.imul, 1) := by decide +kernel
theorem dX8_puts_9 : decode cX8_puts 9 = .ok (.iadd, 1) := by decide +kernel
theorem dX8_puts_10 : decode cX8_puts 10 = .ok (.iload_n 2, 1) := by decide +kernel
theorem dX8_puts_11 : decode cX8_puts 11 = .ok (.iadd, 1) := by decide +kernel
theorem dX8_puts_12 : decode cX8_puts 12 = .ok (.iload_n 3, 1) := by decide +kernel
theorem dX8_puts_13 : decode cX8_puts 13 = .ok (.iastore, 1) := by decide +kernel
theorem dX8_puts_14 : decode cX8_puts 14 = .ok (.return_, 1) := by decide +kernel
theorem dX8_isSound_0 : decode cX8_isSound 0 = .ok (.aload_n 0, 1) := by decide +kernel
theorem dX8_isSound_1 : decode cX8_isSound 1 = .ok (.iload_n 1, 1) := by decide +kernel
theorem dX8_isSound_2 : decode cX8_isSound 2 = .ok (.iconst 1, 1) := by decide +kernel
theorem dX8_isSound_3 : decode cX8_isSound 3 = .ok (.invokevirtual 72, 3) := by decide +kernel
theorem dX8_isSound_6 : decode cX8_isSound 6 = .ok (.ifCond .ne 16, 3) := by decide +kernel
theorem dX8_isSound_9 : decode cX8_isSound 9 = .ok (.aload_n 0, 1) := by decide +kernel
theorem dX8_isSound_10 : decode cX8_isSound 10 = .ok (.iload_n 1, 1) := by decide +kernel
theorem dX8_isSound_11 : decode cX8_isSound 11 = .ok (.iconst 2, 1) := by decide +kernel
theorem dX8_isSound_12 : decode cX8_isSound 12 = .ok (.invokevirtual 72, 3) := by decide +kernel
theorem dX8_isSound_15 : decode cX8_isSound 15 = .ok (.ifCond .ne 7, 3) := by decide +kernel
theorem dX8_isSound_18 : decode cX8_isSound 18 = .ok (.iconst 1, 1) := by decide +kernel
theorem dX8_isSound_19 : decode cX8_isSound 19 = .ok (.goto 4, 3) := by decide +kernel
theorem dX8_isSound_22 : decode cX8_isSound 22 = .ok (.iconst 0, 1) := by decide +kernel
theorem dX8_isSound_23 : decode cX8_isSound 23 = .ok (.ireturn, 1) := by decide +kernel
theorem dX8_position_0 : decode cX8_position 0 = .ok (.iconst 0, 1) := by decide +kernel
theorem dX8_position_1 : decode cX8_position 1 = .ok (.istore_n 3, 1) := by decide +kernel
theorem dX8_position_2 : decode cX8_position 2 = .ok (.iconst 0, 1) := by decide +kernel
theorem dX8_position_3 : decode cX8_position 3 = .ok (.istore 4, 2) := by decide +kernel
theorem dX8_position_5 : decode cX8_position 5 = .ok (.iload 4, 2) := by decide +kernel
theorem dX8_position_7 : decode cX8_position 7 = .ok (.aload_n 0, 1) := by decide +kernel
theorem dX8_position_8 : decode cX8_position 8 = .ok (.getfield 7, 3) := by decide +kernel
theorem dX8_position_11 : decode cX8_position 11 = .ok (.iconst 2, 1) := by decide +kernel
theorem dX8_position_12 : decode cX8_position 12 = .ok (.iaload, 1) := by decide +kernel
theorem dX8_position_13 : decode cX8_position 13 = .ok (.if_icmp .ge 70, 3) := by decide +kernel
theorem dX8_position_16 : decode cX8_position 16 = .ok (.aload_n 0, 1) := by decide +kernel
theorem dX8_position_17 : decode cX8_position 17 = .ok (.iload 4, 2) := by decide +kernel
theorem dX8_position_19 : decode cX8_position 19 = .ok (.iconst 2, 1) := by decide +kernel
theorem dX8_position_20 : decode cX8_position 20 = .ok (.invokevirtual 76, 3) := by decide +kernel
theorem dX8_position_23 : decode cX8_position 23 = .ok (.iload_n 2, 1) := by decide +kernel
theorem dX8_position_24 : decode cX8_position 24 = .ok (.if_icmp .eq 6, 3) := by decide +kernel
theorem dX8_position_27 : decode cX8_position 27 = .ok (.goto 50, 3) := by decide +kernel
theorem dX8_position_30 : decode cX8_position 30 = .ok (.iload_n 3, 1) := by decide +kernel
theorem dX8_position_31 : decode cX8_position 31 = .ok (.aload_n 0, 1) := by decide +kernel
theorem dX8_position_32 : decode cX8_position 32 = .ok (.iload 4, 2) := by decide +kernel
theorem dX8_position_34 : decode cX8_position 34 = .ok (.iconst 0, 1) := by decide +kernel
theorem dX8_position_35 : decode cX8_position 35 = .ok (.invokevirtual 76, 3) := by decide +kernel
theorem dX8_position_38 : decode cX8_position 38 = .ok (.iload_n 1, 1) := by decide +kernel
theorem dX8_position_39 : decode cX8_position 39 = .ok (.if_icmp .ne 13, 3) := by decide +kernel
theorem dX8_position_42 : decode cX8_position 42 = .ok (.aload_n 0, 1) := by decide +kernel
theorem dX8_position_43 : decode cX8_position 43 = .ok (.iload 4, 2) := by decide +kernel
theorem dX8_position_45 : decode cX8_position 45 = .ok (.iconst 3, 1) := by decide +kernel
theorem dX8_position_46 : decode cX8_position 46 = .ok (.invokevirtual 76, 3) := by decide +kernel
theorem dX8_position_49 : decode cX8_position 49 = .ok (.goto 26, 3) := by decide +kernel
theorem dX8_position_52 : decode cX8_position 52 = .ok (.aload_n 0, 1) := by decide +kernel
theorem dX8_position_53 : decode cX8_position 53 = .ok (.iload 4, 2) := by decide +kernel
theorem dX8_position_55 : decode cX8_position 55 = .ok (.iconst 1, 1) := by decide +kernel
theorem dX8_position_56 : decode cX8_position 56 = .ok (.invokevirtual 76, 3) := by decide +kernel
theorem dX8_position_59 : decode cX8_position 59 = .ok (.iload_n 1, 1) := by decide +kernel
theorem dX8_position_60 : decode cX8_position 60 = .ok (.if_icmp .ne 14, 3) := by decide +kernel
theorem dX8_position_63 : decode cX8_position 63 = .ok (.aload_n 0, 1) := by decide +kernel
theorem dX8_position_64 : decode cX8_position 64 = .ok (.iload 4, 2) := by decide +kernel
theorem dX8_position_66 : decode cX8_position 66 = .ok (.iconst 3, 1) := by decide +kernel
theorem dX8_position_67 : decode cX8_position 67 = .ok (.invokevirtual 76, 3) := by decide +kernel
theorem dX8_position_70 : decode cX8_position 70 = .ok (.ineg, 1) := by decide +kernel
theorem dX8_position_71 : decode cX8_position 71 = .ok (.goto 4, 3) := by decide +kernel
theorem dX8_position_74 : decode cX8_position 74 = .ok (.iconst 0, 1) := by decide +kernel
theorem dX8_position_75 : decode cX8_position 75 = .ok (.iadd, 1) := by decide +kernel
theorem dX8_position_76 : decode cX8_position 76 = .ok (.istore_n 3, 1) := by decide +kernel
theorem dX8_position_77 : decode cX8_position 77 = .ok (.iinc 4 1, 3) := by decide +kernel
theorem dX8_position_80 : decode cX8_position 80 = .ok (.goto (-75), 3) := by decide +kernel
theorem dX8_position_83 : decode cX8_position 83 = .ok (.iload_n 3, 1) := by decide +kernel
theorem dX8_position_84 : decode cX8_position 84 = .ok (.ireturn, 1) := by decide +kernel
theorem dX8_margin_0 : decode cX8_margin 0 = .ok (.iconst 0, 1) := by decide +kernel
theorem dX8_margin_1 : decode cX8_margin 1 = .ok (.istore_n 2, 1) := by decide +kernel
theorem dX8_margin_2 : decode cX8_margin 2 = .ok (.iconst 0, 1) := by decide +kernel
theorem dX8_margin_3 : decode cX8_margin 3 = .ok (.istore_n 3, 1) := by decide +kernel
theorem dX8_margin_4 : decode cX8_margin 4 = .ok (.iload_n 3, 1) := by decide +kernel
theorem dX8_margin_5 : decode cX8_margin 5 = .ok (.aload_n 0, 1) := by decide +kernel
theorem dX8_margin_6 : decode cX8_margin 6 = .ok (.getfield 7, 3) := by decide +kernel
theorem dX8_margin_9 : decode cX8_margin 9 = .ok (.iconst 0, 1) := by decide +kernel
theorem dX8_margin_10 : decode cX8_margin 10 = .ok (.iaload, 1) := by decide +kernel
theorem dX8_margin_11 : decode cX8_margin 11 = .ok (.if_icmp .ge 28, 3) := by decide +kernel
theorem dX8_margin_14 : decode cX8_margin 14 = .ok (.iload_n 2, 1) := by decide +kernel
theorem dX8_margin_15 : decode cX8_margin 15 = .ok (.aload_n 0, 1) := by decide +kernel
theorem dX8_margin_16 : decode cX8_margin 16 = .ok (.iload_n 1, 1) := by decide +kernel
theorem dX8_margin_17 : decode cX8_margin 17 = .ok (.iload_n 3, 1) := by decide +kernel
theorem dX8_margin_18 : decode cX8_margin 18 = .ok (.invokevirtual 79, 3) := by decide +kernel
theorem dX8_margin_21 : decode cX8_margin 21 = .ok (.invokestatic 82, 3) := by decide +kernel
theorem dX8_margin_24 : decode cX8_margin 24 = .ok (.aload_n 0, 1) := by decide +kernel
theorem dX8_margin_25 : decode cX8_margin 25 = .ok (.iload_n 3, 1) := by decide +kernel
theorem dX8_margin_26 : decode cX8_margin 26 = .ok (.iconst 2, 1) := by decide +kernel
theorem dX8_margin_27 : decode cX8_margin 27 = .ok (.invokevirtual 86, 3) := by decide +kernel
theorem dX8_margin_30 : decode cX8_margin 30 = .ok (.imul, 1) := by decide +kernel
theorem dX8_margin_31 : decode cX8_margin 31 = .ok (.iadd, 1) := by decide +kernel
theorem dX8_margin_32 : decode cX8_margin 32 = .ok (.istore_n 2, 1) := by decide +kernel
theorem dX8_margin_33 : decode cX8_margin 33 = .ok (.iinc 3 1, 3) := by decide +kernel
theorem dX8_margin_36 : decode cX8_margin 36 = .ok (.goto (-32), 3) := by decide +kernel
theorem dX8_margin_39 : decode cX8_margin 39 = .ok (.iload_n 2, 1) := by decide +kernel
theorem dX8_margin_40 : decode cX8_margin 40 = .ok (.ireturn, 1) := by decide +kernel
theorem dX8_variation_0 : decode cX8_variation 0 = .ok (.iconst 0, 1) := by decide +kernel
theorem dX8_variation_1 : decode cX8_variation 1 = .ok (.istore_n 2, 1) := by decide +kernel
theorem dX8_variation_2 : decode cX8_variation 2 = .ok (.iconst 0, 1) := by decide +kernel
theorem dX8_variation_3 : decode cX8_variation 3 = .ok (.istore_n 3, 1) := by decide +kernel
theorem dX8_variation_4 : decode cX8_variation 4 = .ok (.iload_n 3, 1) := by decide +kernel
theorem dX8_variation_5 : decode cX8_variation 5 = .ok (.aload_n 0, 1) := by decide +kernel
theorem dX8_variation_6 : decode cX8_variation 6 = .ok (.getfield 7, 3) := by decide +kernel
theorem dX8_variation_9 : decode cX8_variation 9 = .ok (.iconst 0, 1) := by decide +kernel
theorem dX8_variation_10 : decode cX8_variation 10 = .ok (.iaload, 1) := by decide +kernel
theorem dX8_variation_11 : decode cX8_variation 11 = .ok (.if_icmp .ge 32, 3) := by decide +kernel
theorem dX8_variation_14 : decode cX8_variation 14 = .ok (.iload_n 2, 1) := by decide +kernel
theorem dX8_variation_15 : decode cX8_variation 15 = .ok (.aload_n 0, 1) := by decide +kernel
theorem dX8_variation_16 : decode cX8_variation 16 = .ok (.iload_n 1, 1) := by decide +kernel
theorem dX8_variation_17 : decode cX8_variation 17 = .ok (.iload_n 3, 1) := by decide +kernel
theorem dX8_variation_18 : decode cX8_variation 18 = .ok (.invokevirtual 79, 3) := by decide +kernel
theorem dX8_variation_21 : decode cX8_variation 21 = .ok (.aload_n 0, 1) := by decide +kernel
theorem dX8_variation_22 : decode cX8_variation 22 = .ok (.iload_n 3, 1) := by decide +kernel
theorem dX8_variation_23 : decode cX8_variation 23 = .ok (.iconst 1, 1) := by decide +kernel
theorem dX8_variation_24 : decode cX8_variation 24 = .ok (.invokevirtual 86, 3) := by decide +kernel
theorem dX8_variation_27 : decode cX8_variation 27 = .ok (.aload_n 0, 1) := by decide +kernel
theorem dX8_variation_28 : decode cX8_variation 28 = .ok (.iload_n 3, 1) := by decide +kernel
theorem dX8_variation_29 : decode cX8_variation 29 = .ok (.iconst 0, 1) := by decide +kernel
theorem dX8_variation_30 : decode cX8_variation 30 = .ok (.invokevirtual 86, 3) := by decide +kernel
theorem dX8_variation_33 : decode cX8_variation 33 = .ok (.isub, 1) := by decide +kernel
theorem dX8_variation_34 : decode cX8_variation 34 = .ok (.imul, 1) := by decide +kernel
theorem dX8_variation_35 : decode cX8_variation 35 = .ok (.iadd, 1) := by decide +kernel
theorem dX8_variation_36 : decode cX8_variation 36 = .ok (.istore_n 2, 1) := by decide +kernel
theorem dX8_variation_37 : decode cX8_variation 37 = .ok (.iinc 3 1, 3) := by decide +kernel
theorem dX8_variation_40 : decode cX8_variation 40 = .ok (.goto (-36), 3) := by decide +kernel
theorem dX8_variation_43 : decode cX8_variation 43 = .ok (.iload_n 2, 1) := by decide +kernel
theorem dX8_variation_44 : decode cX8_variation 44 = .ok (.ireturn, 1) := by decide +kernel
theorem dX8_addHorizon_0 : decode cX8_addHorizon 0 = .ok (.aload_n 0, 1) := by decide +kernel
theorem dX8_addHorizon_1 : decode cX8_addHorizon 1 = .ok (.iload_n 1, 1) := by decide +kernel
theorem dX8_addHorizon_2 : decode cX8_addHorizon 2 = .ok (.iconst 1, 1) := by decide +kernel
theorem dX8_addHorizon_3 : decode cX8_addHorizon 3 = .ok (.bipush 99, 2) := by decide +kernel
theorem dX8_addHorizon_5 : decode cX8_addHorizon 5 = .ok (.invokestatic 68, 3) := by decide +kernel
theorem dX8_addHorizon_8 : decode cX8_addHorizon 8 = .ok (.ifCond .eq 13, 3) := by decide +kernel
theorem dX8_addHorizon_11 : decode cX8_addHorizon 11 = .ok (.iload_n 2, 1) := by decide +kernel
theorem dX8_addHorizon_12 : decode cX8_addHorizon 12 = .ok (.iconst 1, 1) := by decide +kernel
theorem dX8_addHorizon_13 : decode cX8_addHorizon 13 = .ok (.bipush 20, 2) := by decide +kernel
theorem dX8_addHorizon_15 : decode cX8_addHorizon 15 = .ok (.invokestatic 68, 3) := by decide +kernel
theorem dX8_addHorizon_18 : decode cX8_addHorizon 18 = .ok (.ifCond .ne 7, 3) := by decide +kernel
theorem dX8_addHorizon_21 : decode cX8_addHorizon 21 = .ok (.iconst 1, 1) := by decide +kernel
theorem dX8_addHorizon_22 : decode cX8_addHorizon 22 = .ok (.goto 18, 3) := by decide +kernel
theorem dX8_addHorizon_25 : decode cX8_addHorizon 25 = .ok (.aload_n 0, 1) := by decide +kernel
theorem dX8_addHorizon_26 : decode cX8_addHorizon 26 = .ok (.getfield 7, 3) := by decide +kernel
theorem dX8_addHorizon_29 : decode cX8_addHorizon 29 = .ok (.iconst 0, 1) := by decide +kernel
theorem dX8_addHorizon_30 : decode cX8_addHorizon 30 = .ok (.iaload, 1) := by decide +kernel
theorem dX8_addHorizon_31 : decode cX8_addHorizon 31 = .ok (.iconst 4, 1) := by decide +kernel
theorem dX8_addHorizon_32 : decode cX8_addHorizon 32 = .ok (.if_icmp .ne 7, 3) := by decide +kernel
theorem dX8_addHorizon_35 : decode cX8_addHorizon 35 = .ok (.iconst 2, 1) := by decide +kernel
theorem dX8_addHorizon_36 : decode cX8_addHorizon 36 = .ok (.goto 4, 3) := by decide +kernel
theorem dX8_addHorizon_39 : decode cX8_addHorizon 39 = .ok (.iconst 0, 1) := by decide +kernel
theorem dX8_addHorizon_40 : decode cX8_addHorizon 40 = .ok (.invokevirtual 89, 3) := by decide +kernel
theorem dX8_addHorizon_43 : decode cX8_addHorizon 43 = .ok (.ifCond .eq 5, 3) := by decide +kernel
theorem dX8_addHorizon_46 : decode cX8_addHorizon 46 = .ok (.iconst 0, 1) := by decide +kernel
theorem dX8_addHorizon_47 : decode cX8_addHorizon 47 = .ok (.ireturn, 1) := by decide +kernel
theorem dX8_addHorizon_48 : decode cX8_addHorizon 48 = .ok (.aload_n 0, 1) := by decide +kernel
theorem dX8_addHorizon_49 : decode cX8_addHorizon 49 = .ok (.aload_n 0, 1) := by decide +kernel
theorem dX8_addHorizon_50 : decode cX8_addHorizon 50 = .ok (.getfield 7, 3) := by decide +kernel
theorem dX8_addHorizon_53 : decode cX8_addHorizon 53 = .ok (.invokevirtual 93, 3) := by decide +kernel
theorem dX8_addHorizon_56 : decode cX8_addHorizon 56 = .ok (.bipush 6, 2) := by decide +kernel
theorem dX8_addHorizon_58 : decode cX8_addHorizon 58 = .ok (.iconst 3, 1) := by decide +kernel
theorem dX8_addHorizon_59 : decode cX8_addHorizon 59 = .ok (.aload_n 0, 1) := by decide +kernel
theorem dX8_addHorizon_60 : decode cX8_addHorizon 60 = .ok (.getfield 7, 3) := by decide +kernel
theorem dX8_addHorizon_63 : decode cX8_addHorizon 63 = .ok (.iconst 0, 1) := by decide +kernel
theorem dX8_addHorizon_64 : decode cX8_addHorizon 64 = .ok (.iaload, 1) := by decide +kernel
theorem dX8_addHorizon_65 : decode cX8_addHorizon 65 = .ok (.imul, 1) := by decide +kernel
theorem dX8_addHorizon_66 : decode cX8_addHorizon 66 = .ok (.iadd, 1) := by decide +kernel
theorem dX8_addHorizon_67 : decode cX8_addHorizon 67 = .ok (.istore_n 3, 1) := by decide +kernel
theorem dX8_addHorizon_68 : decode cX8_addHorizon 68 = .ok (.aload_n 0, 1) := by decide +kernel
theorem dX8_addHorizon_69 : decode cX8_addHorizon 69 = .ok (.getfield 7, 3) := by decide +kernel
theorem dX8_addHorizon_72 : decode cX8_addHorizon 72 = .ok (.iload_n 3, 1) := by decide +kernel
theorem dX8_addHorizon_73 : decode cX8_addHorizon 73 = .ok (.iconst 0, 1) := by decide +kernel
theorem dX8_addHorizon_74 : decode cX8_addHorizon 74 = .ok (.iadd, 1) := by decide +kernel
theorem dX8_addHorizon_75 : decode cX8_addHorizon 75 = .ok (.iload_n 1, 1) := by decide +kernel
theorem dX8_addHorizon_76 : decode cX8_addHorizon 76 = .ok (.iastore, 1) := by decide +kernel
theorem dX8_addHorizon_77 : decode cX8_addHorizon 77 = .ok (.aload_n 0, 1) := by decide +kernel
theorem dX8_addHorizon_78 : decode cX8_addHorizon 78 = .ok (.getfield 7, 3) := by decide +kernel
theorem dX8_addHorizon_81 : decode cX8_addHorizon 81 = .ok (.iload_n 3, 1) := by decide +kernel
theorem dX8_addHorizon_82 : decode cX8_addHorizon 82 = .ok (.iconst 1, 1) := by decide +kernel
theorem dX8_addHorizon_83 : decode cX8_addHorizon 83 = .ok (.iadd, 1) := by decide +kernel
theorem dX8_addHorizon_84 : decode cX8_addHorizon 84 = .ok (.iload_n 1, 1) := by decide +kernel
theorem dX8_addHorizon_85 : decode cX8_addHorizon 85 = .ok (.iastore, 1) := by decide +kernel
theorem dX8_addHorizon_86 : decode cX8_addHorizon 86 = .ok (.aload_n 0, 1) := by decide +kernel
theorem dX8_addHorizon_87 : decode cX8_addHorizon 87 = .ok (.getfield 7, 3) := by decide +kernel
theorem dX8_addHorizon_90 : decode cX8_addHorizon 90 = .ok (.iload_n 3, 1) := by decide +kernel
theorem dX8_addHorizon_91 : decode cX8_addHorizon 91 = .ok (.iconst 2, 1) := by decide +kernel
theorem dX8_addHorizon_92 : decode cX8_addHorizon 92 = .ok (.iadd, 1) := by decide +kernel
theorem dX8_addHorizon_93 : decode cX8_addHorizon 93 = .ok (.iload_n 2, 1) := by decide +kernel
theorem dX8_addHorizon_94 : decode cX8_addHorizon 94 = .ok (.iastore, 1) := by decide +kernel
theorem dX8_addHorizon_95 : decode cX8_addHorizon 95 = .ok (.aload_n 0, 1) := by decide +kernel
theorem dX8_addHorizon_96 : decode cX8_addHorizon 96 = .ok (.getfield 7, 3) := by decide +kernel
theorem dX8_addHorizon_99 : decode cX8_addHorizon 99 = .ok (.iconst 0, 1) := by decide +kernel
theorem dX8_addHorizon_100 : decode cX8_addHorizon 100 = .ok (.dup2, 1) := by decide +kernel
theorem dX8_addHorizon_101 : decode cX8_addHorizon 101 = .ok (.iaload, 1) := by decide +kernel
theorem dX8_addHorizon_102 : decode cX8_addHorizon 102 = .ok (.iconst 1, 1) := by decide +kernel
theorem dX8_addHorizon_103 : decode cX8_addHorizon 103 = .ok (.iadd, 1) := by decide +kernel
theorem dX8_addHorizon_104 : decode cX8_addHorizon 104 = .ok (.iastore, 1) := by decide +kernel
theorem dX8_addHorizon_105 : decode cX8_addHorizon 105 = .ok (.aload_n 0, 1) := by decide +kernel
theorem dX8_addHorizon_106 : decode cX8_addHorizon 106 = .ok (.getfield 7, 3) := by decide +kernel
theorem dX8_addHorizon_109 : decode cX8_addHorizon 109 = .ok (.iconst 0, 1) := by decide +kernel
theorem dX8_addHorizon_110 : decode cX8_addHorizon 110 = .ok (.iaload, 1) := by decide +kernel
theorem dX8_addHorizon_111 : decode cX8_addHorizon 111 = .ok (.iconst 1, 1) := by decide +kernel
theorem dX8_addHorizon_112 : decode cX8_addHorizon 112 = .ok (.isub, 1) := by decide +kernel
theorem dX8_addHorizon_113 : decode cX8_addHorizon 113 = .ok (.ireturn, 1) := by decide +kernel
theorem dX8_addTrader_0 : decode cX8_addTrader 0 = .ok (.aload_n 0, 1) := by decide +kernel
theorem dX8_addTrader_1 : decode cX8_addTrader 1 = .ok (.iload_n 1, 1) := by decide +kernel
theorem dX8_addTrader_2 : decode cX8_addTrader 2 = .ok (.iconst 0, 1) := by decide +kernel
theorem dX8_addTrader_3 : decode cX8_addTrader 3 = .ok (.sipush 9999, 3) := by decide +kernel
theorem dX8_addTrader_6 : decode cX8_addTrader 6 = .ok (.invokestatic 68, 3) := by decide +kernel
theorem dX8_addTrader_9 : decode cX8_addTrader 9 = .ok (.ifCond .ne 7, 3) := by decide +kernel
theorem dX8_addTrader_12 : decode cX8_addTrader 12 = .ok (.iconst 1, 1) := by decide +kernel
theorem dX8_addTrader_13 : decode cX8_addTrader 13 = .ok (.goto 19, 3) := by decide +kernel
theorem dX8_addTrader_16 : decode cX8_addTrader 16 = .ok (.aload_n 0, 1) := by decide +kernel
theorem dX8_addTrader_17 : decode cX8_addTrader 17 = .ok (.getfield 7, 3) := by decide +kernel
theorem dX8_addTrader_20 : decode cX8_addTrader 20 = .ok (.iconst 1, 1) := by decide +kernel
theorem dX8_addTrader_21 : decode cX8_addTrader 21 = .ok (.iaload, 1) := by decide +kernel
theorem dX8_addTrader_22 : decode cX8_addTrader 22 = .ok (.bipush 6, 2) := by decide +kernel
theorem dX8_addTrader_24 : decode cX8_addTrader 24 = .ok (.if_icmp .ne 7, 3) := by decide +kernel
theorem dX8_addTrader_27 : decode cX8_addTrader 27 = .ok (.iconst 2, 1) := by decide +kernel
theorem dX8_addTrader_28 : decode cX8_addTrader 28 = .ok (.goto 4, 3) := by decide +kernel
theorem dX8_addTrader_31 : decode cX8_addTrader 31 = .ok (.iconst 0, 1) := by decide +kernel
theorem dX8_addTrader_32 : decode cX8_addTrader 32 = .ok (.invokevirtual 89, 3) := by decide +kernel
theorem dX8_addTrader_35 : decode cX8_addTrader 35 = .ok (.ifCond .eq 5, 3) := by decide +kernel
theorem dX8_addTrader_38 : decode cX8_addTrader 38 = .ok (.iconst 0, 1) := by decide +kernel
theorem dX8_addTrader_39 : decode cX8_addTrader 39 = .ok (.ireturn, 1) := by decide +kernel
theorem dX8_addTrader_40 : decode cX8_addTrader 40 = .ok (.aload_n 0, 1) := by decide +kernel
theorem dX8_addTrader_41 : decode cX8_addTrader 41 = .ok (.aload_n 0, 1) := by decide +kernel
theorem dX8_addTrader_42 : decode cX8_addTrader 42 = .ok (.getfield 7, 3) := by decide +kernel
theorem dX8_addTrader_45 : decode cX8_addTrader 45 = .ok (.invokevirtual 93, 3) := by decide +kernel
theorem dX8_addTrader_48 : decode cX8_addTrader 48 = .ok (.aload_n 0, 1) := by decide +kernel
theorem dX8_addTrader_49 : decode cX8_addTrader 49 = .ok (.getfield 7, 3) := by decide +kernel
theorem dX8_addTrader_52 : decode cX8_addTrader 52 = .ok (.iconst 1, 1) := by decide +kernel
theorem dX8_addTrader_53 : decode cX8_addTrader 53 = .ok (.iaload, 1) := by decide +kernel
theorem dX8_addTrader_54 : decode cX8_addTrader 54 = .ok (.istore_n 2, 1) := by decide +kernel
theorem dX8_addTrader_55 : decode cX8_addTrader 55 = .ok (.aload_n 0, 1) := by decide +kernel
theorem dX8_addTrader_56 : decode cX8_addTrader 56 = .ok (.getfield 7, 3) := by decide +kernel
theorem dX8_addTrader_59 : decode cX8_addTrader 59 = .ok (.iconst 1, 1) := by decide +kernel
theorem dX8_addTrader_60 : decode cX8_addTrader 60 = .ok (.dup2, 1) := by decide +kernel
theorem dX8_addTrader_61 : decode cX8_addTrader 61 = .ok (.iaload, 1) := by decide +kernel
theorem dX8_addTrader_62 : decode cX8_addTrader 62 = .ok (.iconst 1, 1) := by decide +kernel
theorem dX8_addTrader_63 : decode cX8_addTrader 63 = .ok (.iadd, 1) := by decide +kernel
theorem dX8_addTrader_64 : decode cX8_addTrader 64 = .ok (.iastore, 1) := by decide +kernel
theorem dX8_addTrader_65 : decode cX8_addTrader 65 = .ok (.aload_n 0, 1) := by decide +kernel
theorem dX8_addTrader_66 : decode cX8_addTrader 66 = .ok (.iload_n 2, 1) := by decide +kernel
theorem dX8_addTrader_67 : decode cX8_addTrader 67 = .ok (.iconst 0, 1) := by decide +kernel
theorem dX8_addTrader_68 : decode cX8_addTrader 68 = .ok (.iload_n 1, 1) := by decide +kernel
theorem dX8_addTrader_69 : decode cX8_addTrader 69 = .ok (.invokevirtual 97, 3) := by decide +kernel
theorem dX8_addTrader_72 : decode cX8_addTrader 72 = .ok (.aload_n 0, 1) := by decide +kernel
theorem dX8_addTrader_73 : decode cX8_addTrader 73 = .ok (.iload_n 2, 1) := by decide +kernel
theorem dX8_addTrader_74 : decode cX8_addTrader 74 = .ok (.iconst 1, 1) := by decide +kernel
theorem dX8_addTrader_75 : decode cX8_addTrader 75 = .ok (.iconst 0, 1) := by decide +kernel
theorem dX8_addTrader_76 : decode cX8_addTrader 76 = .ok (.invokevirtual 97, 3) := by decide +kernel
theorem dX8_addTrader_79 : decode cX8_addTrader 79 = .ok (.aload_n 0, 1) := by decide +kernel
theorem dX8_addTrader_80 : decode cX8_addTrader 80 = .ok (.iload_n 2, 1) := by decide +kernel
theorem dX8_addTrader_81 : decode cX8_addTrader 81 = .ok (.iconst 2, 1) := by decide +kernel
theorem dX8_addTrader_82 : decode cX8_addTrader 82 = .ok (.iconst 0, 1) := by decide +kernel
theorem dX8_addTrader_83 : decode cX8_addTrader 83 = .ok (.invokevirtual 97, 3) := by decide +kernel
theorem dX8_addTrader_86 : decode cX8_addTrader 86 = .ok (.aload_n 0, 1) := by decide +kernel
theorem dX8_addTrader_87 : decode cX8_addTrader 87 = .ok (.getfield 7, 3) := by decide +kernel
theorem dX8_addTrader_90 : decode cX8_addTrader 90 = .ok (.sipush 136, 3) := by decide +kernel
theorem dX8_addTrader_93 : decode cX8_addTrader 93 = .ok (.dup2, 1) := by decide +kernel
theorem dX8_addTrader_94 : decode cX8_addTrader 94 = .ok (.iaload, 1) := by decide +kernel
theorem dX8_addTrader_95 : decode cX8_addTrader 95 = .ok (.iload_n 1, 1) := by decide +kernel
theorem dX8_addTrader_96 : decode cX8_addTrader 96 = .ok (.iadd, 1) := by decide +kernel
theorem dX8_addTrader_97 : decode cX8_addTrader 97 = .ok (.iastore, 1) := by decide +kernel
theorem dX8_addTrader_98 : decode cX8_addTrader 98 = .ok (.iload_n 2, 1) := by decide +kernel
theorem dX8_addTrader_99 : decode cX8_addTrader 99 = .ok (.ireturn, 1) := by decide +kernel
theorem dX8_ends_0 : decode cX8_ends 0 = .ok (.aload_n 0, 1) := by decide +kernel
theorem dX8_ends_1 : decode cX8_ends 1 = .ok (.getfield 7, 3) := by decide +kernel
theorem dX8_ends_4 : decode cX8_ends 4 = .ok (.iconst 2, 1) := by decide +kernel
theorem dX8_ends_5 : decode cX8_ends 5 = .ok (.dup2, 1) := by decide +kernel
theorem dX8_ends_6 : decode cX8_ends 6 = .ok (.iaload, 1) := by decide +kernel
theorem dX8_ends_7 : decode cX8_ends 7 = .ok (.iconst 1, 1) := by decide +kernel
theorem dX8_ends_8 : decode cX8_ends 8 = .ok (.isub, 1) := by decide +kernel
theorem dX8_ends_9 : decode cX8_ends 9 = .ok (.iastore, 1) := by decide +kernel
theorem dX8_ends_10 : decode cX8_ends 10 = .ok (.bipush 36, 2) := by decide +kernel
theorem dX8_ends_12 : decode cX8_ends 12 = .ok (.iconst 5, 1) := by decide +kernel
theorem dX8_ends_13 : decode cX8_ends 13 = .ok (.iload_n 1, 1) := by decide +kernel
theorem dX8_ends_14 : decode cX8_ends 14 = .ok (.imul, 1) := by decide +kernel
theorem dX8_ends_15 : decode cX8_ends 15 = .ok (.iadd, 1) := by decide +kernel
theorem dX8_ends_16 : decode cX8_ends 16 = .ok (.istore_n 2, 1) := by decide +kernel
theorem dX8_ends_17 : decode cX8_ends 17 = .ok (.iload_n 2, 1) := by decide +kernel
theorem dX8_ends_18 : decode cX8_ends 18 = .ok (.bipush 36, 2) := by decide +kernel
theorem dX8_ends_20 : decode cX8_ends 20 = .ok (.iconst 5, 1) := by decide +kernel
theorem dX8_ends_21 : decode cX8_ends 21 = .ok (.aload_n 0, 1) := by decide +kernel
theorem dX8_ends_22 : decode cX8_ends 22 = .ok (.getfield 7, 3) := by decide +kernel
theorem dX8_ends_25 : decode cX8_ends 25 = .ok (.iconst 2, 1) := by decide +kernel
theorem dX8_ends_26 : decode cX8_ends 26 = .ok (.iaload, 1) := by decide +kernel
theorem dX8_ends_27 : decode cX8_ends 27 = .ok (.imul, 1) := by decide +kernel
theorem dX8_ends_28 : decode cX8_ends 28 = .ok (.iadd, 1) := by decide +kernel
theorem dX8_ends_29 : decode cX8_ends 29 = .ok (.if_icmp .ge 23, 3) := by decide +kernel
theorem dX8_ends_32 : decode cX8_ends 32 = .ok (.aload_n 0, 1) := by decide +kernel
theorem dX8_ends_33 : decode cX8_ends 33 = .ok (.getfield 7, 3) := by decide +kernel
theorem dX8_ends_36 : decode cX8_ends 36 = .ok (.iload_n 2, 1) := by decide +kernel
theorem dX8_ends_37 : decode cX8_ends 37 = .ok (.aload_n 0, 1) := by decide +kernel
theorem dX8_ends_38 : decode cX8_ends 38 = .ok (.getfield 7, 3) := by decide +kernel
theorem dX8_ends_41 : decode cX8_ends 41 = .ok (.iload_n 2, 1) := by decide +kernel
theorem dX8_ends_42 : decode cX8_ends 42 = .ok (.iconst 5, 1) := by decide +kernel
theorem dX8_ends_43 : decode cX8_ends 43 = .ok (.iadd, 1) := by decide +kernel
theorem dX8_ends_44 : decode cX8_ends 44 = .ok (.iaload, 1) := by decide +kernel
theorem dX8_ends_45 : decode cX8_ends 45 = .ok (.iastore, 1) := by decide +kernel
theorem dX8_ends_46 : decode cX8_ends 46 = .ok (.iinc 2 1, 3) := by decide +kernel
theorem dX8_ends_49 : decode cX8_ends 49 = .ok (.goto (-32), 3) := by decide +kernel
theorem dX8_ends_52 : decode cX8_ends 52 = .ok (.iconst 0, 1) := by decide +kernel
theorem dX8_ends_53 : decode cX8_ends 53 = .ok (.istore_n 2, 1) := by decide +kernel
theorem dX8_ends_54 : decode cX8_ends 54 = .ok (.iload_n 2, 1) := by decide +kernel
theorem dX8_ends_55 : decode cX8_ends 55 = .ok (.iconst 5, 1) := by decide +kernel
theorem dX8_ends_56 : decode cX8_ends 56 = .ok (.if_icmp .ge 21, 3) := by decide +kernel
theorem dX8_ends_59 : decode cX8_ends 59 = .ok (.aload_n 0, 1) := by decide +kernel
theorem dX8_ends_60 : decode cX8_ends 60 = .ok (.aload_n 0, 1) := by decide +kernel
theorem dX8_ends_61 : decode cX8_ends 61 = .ok (.getfield 7, 3) := by decide +kernel
theorem dX8_ends_64 : decode cX8_ends 64 = .ok (.iconst 2, 1) := by decide +kernel
theorem dX8_ends_65 : decode cX8_ends 65 = .ok (.iaload, 1) := by decide +kernel
theorem dX8_ends_66 : decode cX8_ends 66 = .ok (.iload_n 2, 1) := by decide +kernel
theorem dX8_ends_67 : decode cX8_ends 67 = .ok (.iconst 0, 1) := by decide +kernel
theorem dX8_ends_68 : decode cX8_ends 68 = .ok (.invokevirtual 101, 3) := by decide +kernel
theorem dX8_ends_71 : decode cX8_ends 71 = .ok (.iinc 2 1, 3) := by decide +kernel
theorem dX8_ends_74 : decode cX8_ends 74 = .ok (.goto (-20), 3) := by decide +kernel
theorem dX8_ends_77 : decode cX8_ends 77 = .ok (.return_, 1) := by decide +kernel
theorem dX8_places_0 : decode cX8_places 0 = .ok (.aload_n 0, 1) := by decide +kernel
theorem dX8_places_1 : decode cX8_places 1 = .ok (.getfield 7, 3) := by decide +kernel
theorem dX8_places_4 : decode cX8_places 4 = .ok (.iconst 2, 1) := by decide +kernel
theorem dX8_places_5 : decode cX8_places 5 = .ok (.iaload, 1) := by decide +kernel
theorem dX8_places_6 : decode cX8_places 6 = .ok (.istore 6, 2) := by decide +kernel
theorem dX8_places_8 : decode cX8_places 8 = .ok (.aload_n 0, 1) := by decide +kernel
theorem dX8_places_9 : decode cX8_places 9 = .ok (.getfield 7, 3) := by decide +kernel
theorem dX8_places_12 : decode cX8_places 12 = .ok (.iconst 2, 1) := by decide +kernel
theorem dX8_places_13 : decode cX8_places 13 = .ok (.dup2, 1) := by decide +kernel
theorem dX8_places_14 : decode cX8_places 14 = .ok (.iaload, 1) := by decide +kernel
theorem dX8_places_15 : decode cX8_places 15 = .ok (.iconst 1, 1) := by decide +kernel
theorem dX8_places_16 : decode cX8_places 16 = .ok (.iadd, 1) := by decide +kernel
theorem dX8_places_17 : decode cX8_places 17 = .ok (.iastore, 1) := by decide +kernel
theorem dX8_places_18 : decode cX8_places 18 = .ok (.aload_n 0, 1) := by decide +kernel
theorem dX8_places_19 : decode cX8_places 19 = .ok (.iload 6, 2) := by decide +kernel
theorem dX8_places_21 : decode cX8_places 21 = .ok (.iconst 0, 1) := by decide +kernel
theorem dX8_places_22 : decode cX8_places 22 = .ok (.iload_n 1, 1) := by decide +kernel
theorem dX8_places_23 : decode cX8_places 23 = .ok (.invokevirtual 101, 3) := by decide +kernel
theorem dX8_places_26 : decode cX8_places 26 = .ok (.aload_n 0, 1) := by decide +kernel
theorem dX8_places_27 : decode cX8_places 27 = .ok (.iload 6, 2) := by decide +kernel
theorem dX8_places_29 : decode cX8_places 29 = .ok (.iconst 1, 1) := by decide +kernel
theorem dX8_places_30 : decode cX8_places 30 = .ok (.iload_n 2, 1) := by decide +kernel
theorem dX8_places_31 : decode cX8_places 31 = .ok (.invokevirtual 101, 3) := by decide +kernel
theorem dX8_places_34 : decode cX8_places 34 = .ok (.aload_n 0, 1) := by decide +kernel
theorem dX8_places_35 : decode cX8_places 35 = .ok (.iload 6, 2) := by decide +kernel
theorem dX8_places_37 : decode cX8_places 37 = .ok (.iconst 2, 1) := by decide +kernel
theorem dX8_places_38 : decode cX8_places 38 = .ok (.iload_n 3, 1) := by decide +kernel
theorem dX8_places_39 : decode cX8_places 39 = .ok (.invokevirtual 101, 3) := by decide +kernel
theorem dX8_places_42 : decode cX8_places 42 = .ok (.aload_n 0, 1) := by decide +kernel
theorem dX8_places_43 : decode cX8_places 43 = .ok (.iload 6, 2) := by decide +kernel
theorem dX8_places_45 : decode cX8_places 45 = .ok (.iconst 3, 1) := by decide +kernel
theorem dX8_places_46 : decode cX8_places 46 = .ok (.iload 4, 2) := by decide +kernel
theorem dX8_places_48 : decode cX8_places 48 = .ok (.invokevirtual 101, 3) := by decide +kernel
theorem dX8_places_51 : decode cX8_places 51 = .ok (.aload_n 0, 1) := by decide +kernel
theorem dX8_places_52 : decode cX8_places 52 = .ok (.iload 6, 2) := by decide +kernel
theorem dX8_places_54 : decode cX8_places 54 = .ok (.iconst 4, 1) := by decide +kernel
theorem dX8_places_55 : decode cX8_places 55 = .ok (.aload_n 0, 1) := by decide +kernel
theorem dX8_places_56 : decode cX8_places 56 = .ok (.getfield 7, 3) := by decide +kernel
theorem dX8_places_59 : decode cX8_places 59 = .ok (.iconst 3, 1) := by decide +kernel
theorem dX8_places_60 : decode cX8_places 60 = .ok (.iaload, 1) := by decide +kernel
theorem dX8_places_61 : decode cX8_places 61 = .ok (.iload 5, 2) := by decide +kernel
theorem dX8_places_63 : decode cX8_places 63 = .ok (.iadd, 1) := by decide +kernel
theorem dX8_places_64 : decode cX8_places 64 = .ok (.invokevirtual 101, 3) := by decide +kernel
theorem dX8_places_67 : decode cX8_places 67 = .ok (.iload 6, 2) := by decide +kernel
theorem dX8_places_69 : decode cX8_places 69 = .ok (.ireturn, 1) := by decide +kernel
theorem dX8_isShort_0 : decode cX8_isShort 0 = .ok (.aload_n 0, 1) := by decide +kernel
theorem dX8_isShort_1 : decode cX8_isShort 1 = .ok (.iload_n 1, 1) := by decide +kernel
theorem dX8_isShort_2 : decode cX8_isShort 2 = .ok (.iconst 0, 1) := by decide +kernel
theorem dX8_isShort_3 : decode cX8_isShort 3 = .ok (.invokevirtual 72, 3) := by decide +kernel
theorem dX8_isShort_6 : decode cX8_isShort 6 = .ok (.iload_n 2, 1) := by decide +kernel
theorem dX8_isShort_7 : decode cX8_isShort 7 = .ok (.isub, 1) := by decide +kernel
theorem dX8_isShort_8 : decode cX8_isShort 8 = .ok (.aload_n 0, 1) := by decide +kernel
theorem dX8_isShort_9 : decode cX8_isShort 9 = .ok (.iload_n 1, 1) := by decide +kernel
theorem dX8_isShort_10 : decode cX8_isShort 10 = .ok (.invokevirtual 104, 3) := by decide +kernel
theorem dX8_isShort_13 : decode cX8_isShort 13 = .ok (.if_icmp .ge 7, 3) := by decide +kernel
theorem dX8_isShort_16 : decode cX8_isShort 16 = .ok (.iconst 1, 1) := by decide +kernel
theorem dX8_isShort_17 : decode cX8_isShort 17 = .ok (.goto 4, 3) := by decide +kernel
theorem dX8_isShort_20 : decode cX8_isShort 20 = .ok (.iconst 0, 1) := by decide +kernel
theorem dX8_isShort_21 : decode cX8_isShort 21 = .ok (.ireturn, 1) := by decide +kernel
theorem dX8_trade_0 : decode cX8_trade 0 = .ok (.aload_n 0, 1) := by decide +kernel
theorem dX8_trade_1 : decode cX8_trade 1 = .ok (.aload_n 0, 1) := by decide +kernel
theorem dX8_trade_2 : decode cX8_trade 2 = .ok (.iload_n 1, 1) := by decide +kernel
theorem dX8_trade_3 : decode cX8_trade 3 = .ok (.invokevirtual 107, 3) := by decide +kernel
theorem dX8_trade_6 : decode cX8_trade 6 = .ok (.ifCond .eq 19, 3) := by decide +kernel
theorem dX8_trade_9 : decode cX8_trade 9 = .ok (.aload_n 0, 1) := by decide +kernel
theorem dX8_trade_10 : decode cX8_trade 10 = .ok (.iload_n 2, 1) := by decide +kernel
theorem dX8_trade_11 : decode cX8_trade 11 = .ok (.invokevirtual 107, 3) := by decide +kernel
theorem dX8_trade_14 : decode cX8_trade 14 = .ok (.ifCond .eq 11, 3) := by decide +kernel
theorem dX8_trade_17 : decode cX8_trade 17 = .ok (.aload_n 0, 1) := by decide +kernel
theorem dX8_trade_18 : decode cX8_trade 18 = .ok (.iload_n 3, 1) := by decide +kernel
theorem dX8_trade_19 : decode cX8_trade 19 = .ok (.invokevirtual 110, 3) := by decide +kernel
theorem dX8_trade_22 : decode cX8_trade 22 = .ok (.ifCond .ne 7, 3) := by decide +kernel
theorem dX8_trade_25 : decode cX8_trade 25 = .ok (.iconst 1, 1) := by decide +kernel
theorem dX8_trade_26 : decode cX8_trade 26 = .ok (.goto 35, 3) := by decide +kernel
theorem dX8_trade_29 : decode cX8_trade 29 = .ok (.iload_n 1, 1) := by decide +kernel
theorem dX8_trade_30 : decode cX8_trade 30 = .ok (.iload_n 2, 1) := by decide +kernel
theorem dX8_trade_31 : decode cX8_trade 31 = .ok (.if_icmp .eq 25, 3) := by decide +kernel
theorem dX8_trade_34 : decode cX8_trade 34 = .ok (.iload 4, 2) := by decide +kernel
theorem dX8_trade_36 : decode cX8_trade 36 = .ok (.iconst 1, 1) := by decide +kernel
theorem dX8_trade_37 : decode cX8_trade 37 = .ok (.bipush 20, 2) := by decide +kernel
theorem dX8_trade_39 : decode cX8_trade 39 = .ok (.invokestatic 68, 3) := by decide +kernel
theorem dX8_trade_42 : decode cX8_trade 42 = .ok (.ifCond .eq 14, 3) := by decide +kernel
theorem dX8_trade_45 : decode cX8_trade 45 = .ok (.iload 5, 2) := by decide +kernel
theorem dX8_trade_47 : decode cX8_trade 47 = .ok (.iconst 1, 1) := by decide +kernel
theorem dX8_trade_48 : decode cX8_trade 48 = .ok (.bipush 9, 2) := by decide +kernel
theorem dX8_trade_50 : decode cX8_trade 50 = .ok (.invokestatic 68, 3) := by decide +kernel
theorem dX8_trade_53 : decode cX8_trade 53 = .ok (.ifCond .ne 7, 3) := by decide +kernel
theorem dX8_trade_56 : decode cX8_trade 56 = .ok (.iconst 2, 1) := by decide +kernel
theorem dX8_trade_57 : decode cX8_trade 57 = .ok (.goto 4, 3) := by decide +kernel
theorem dX8_trade_60 : decode cX8_trade 60 = .ok (.iconst 0, 1) := by decide +kernel
theorem dX8_trade_61 : decode cX8_trade 61 = .ok (.invokevirtual 89, 3) := by decide +kernel
theorem dX8_trade_64 : decode cX8_trade 64 = .ok (.ifCond .eq 5, 3) := by decide +kernel
theorem dX8_trade_67 : decode cX8_trade 67 = .ok (.iconst 0, 1) := by decide +kernel
theorem dX8_trade_68 : decode cX8_trade 68 = .ok (.ireturn, 1) := by decide +kernel
theorem dX8_trade_69 : decode cX8_trade 69 = .ok (.aload_n 0, 1) := by decide +kernel
theorem dX8_trade_70 : decode cX8_trade 70 = .ok (.aload_n 0, 1) := by decide +kernel
theorem dX8_trade_71 : decode cX8_trade 71 = .ok (.getfield 7, 3) := by decide +kernel
theorem dX8_trade_74 : decode cX8_trade 74 = .ok (.iconst 2, 1) := by decide +kernel
theorem dX8_trade_75 : decode cX8_trade 75 = .ok (.iaload, 1) := by decide +kernel
theorem dX8_trade_76 : decode cX8_trade 76 = .ok (.bipush 20, 2) := by decide +kernel
theorem dX8_trade_78 : decode cX8_trade 78 = .ok (.if_icmp .eq 19, 3) := by decide +kernel
theorem dX8_trade_81 : decode cX8_trade 81 = .ok (.aload_n 0, 1) := by decide +kernel
theorem dX8_trade_82 : decode cX8_trade 82 = .ok (.iload_n 1, 1) := by decide +kernel
theorem dX8_trade_83 : decode cX8_trade 83 = .ok (.invokevirtual 113, 3) := by decide +kernel
theorem dX8_trade_86 : decode cX8_trade 86 = .ok (.ifCond .eq 11, 3) := by decide +kernel
theorem dX8_trade_89 : decode cX8_trade 89 = .ok (.aload_n 0, 1) := by decide +kernel
theorem dX8_trade_90 : decode cX8_trade 90 = .ok (.iload_n 2, 1) := by decide +kernel
theorem dX8_trade_91 : decode cX8_trade 91 = .ok (.invokevirtual 113, 3) := by decide +kernel
theorem dX8_trade_94 : decode cX8_trade 94 = .ok (.ifCond .ne 7, 3) := by decide +kernel
theorem dX8_trade_97 : decode cX8_trade 97 = .ok (.iconst 3, 1) := by decide +kernel
theorem dX8_trade_98 : decode cX8_trade 98 = .ok (.goto 4, 3) := by decide +kernel
theorem dX8_trade_101 : decode cX8_trade 101 = .ok (.iconst 0, 1) := by decide +kernel
theorem dX8_trade_102 : decode cX8_trade 102 = .ok (.invokevirtual 89, 3) := by decide +kernel
theorem dX8_trade_105 : decode cX8_trade 105 = .ok (.ifCond .eq 5, 3) := by decide +kernel
theorem dX8_trade_108 : decode cX8_trade 108 = .ok (.iconst 0, 1) := by decide +kernel
theorem dX8_trade_109 : decode cX8_trade 109 = .ok (.ireturn, 1) := by decide +kernel
theorem dX8_trade_110 : decode cX8_trade 110 = .ok (.aload_n 0, 1) := by decide +kernel
theorem dX8_trade_111 : decode cX8_trade 111 = .ok (.iload_n 1, 1) := by decide +kernel
theorem dX8_trade_112 : decode cX8_trade 112 = .ok (.iload_n 2, 1) := by decide +kernel
theorem dX8_trade_113 : decode cX8_trade 113 = .ok (.iload_n 3, 1) := by decide +kernel
theorem dX8_trade_114 : decode cX8_trade 114 = .ok (.iload 4, 2) := by decide +kernel
theorem dX8_trade_116 : decode cX8_trade 116 = .ok (.iload 5, 2) := by decide +kernel
theorem dX8_trade_118 : decode cX8_trade 118 = .ok (.invokevirtual 116, 3) := by decide +kernel
theorem dX8_trade_121 : decode cX8_trade 121 = .ok (.istore 6, 2) := by decide +kernel
theorem dX8_trade_123 : decode cX8_trade 123 = .ok (.aload_n 0, 1) := by decide +kernel
theorem dX8_trade_124 : decode cX8_trade 124 = .ok (.iload_n 1, 1) := by decide +kernel
theorem dX8_trade_125 : decode cX8_trade 125 = .ok (.iconst 0, 1) := by decide +kernel
theorem dX8_trade_126 : decode cX8_trade 126 = .ok (.invokevirtual 120, 3) := by decide +kernel
theorem dX8_trade_129 : decode cX8_trade 129 = .ok (.ifCond .ne 12, 3) := by decide +kernel
theorem dX8_trade_132 : decode cX8_trade 132 = .ok (.aload_n 0, 1) := by decide +kernel
theorem dX8_trade_133 : decode cX8_trade 133 = .ok (.iload_n 2, 1) := by decide +kernel
theorem dX8_trade_134 : decode cX8_trade 134 = .ok (.iconst 0, 1) := by decide +kernel
theorem dX8_trade_135 : decode cX8_trade 135 = .ok (.invokevirtual 120, 3) := by decide +kernel
theorem dX8_trade_138 : decode cX8_trade 138 = .ok (.ifCond .eq 7, 3) := by decide +kernel
theorem dX8_trade_141 : decode cX8_trade 141 = .ok (.iconst 1, 1) := by decide +kernel
theorem dX8_trade_142 : decode cX8_trade 142 = .ok (.goto 4, 3) := by decide +kernel
theorem dX8_trade_145 : decode cX8_trade 145 = .ok (.iconst 0, 1) := by decide +kernel
theorem dX8_trade_146 : decode cX8_trade 146 = .ok (.istore 7, 2) := by decide +kernel
theorem dX8_trade_148 : decode cX8_trade 148 = .ok (.aload_n 0, 1) := by decide +kernel
theorem dX8_trade_149 : decode cX8_trade 149 = .ok (.iload 6, 2) := by decide +kernel
theorem dX8_trade_151 : decode cX8_trade 151 = .ok (.invokevirtual 124, 3) := by decide +kernel
theorem dX8_trade_154 : decode cX8_trade 154 = .ok (.aload_n 0, 1) := by decide +kernel
theorem dX8_trade_155 : decode cX8_trade 155 = .ok (.iload 7, 2) := by decide +kernel
theorem dX8_trade_157 : decode cX8_trade 157 = .ok (.ifCond .eq 7, 3) := by decide +kernel
theorem dX8_trade_160 : decode cX8_trade 160 = .ok (.iconst 4, 1) := by decide +kernel
theorem dX8_trade_161 : decode cX8_trade 161 = .ok (.goto 4, 3) := by decide +kernel
theorem dX8_trade_164 : decode cX8_trade 164 = .ok (.iconst 0, 1) := by decide +kernel
theorem dX8_trade_165 : decode cX8_trade 165 = .ok (.invokevirtual 89, 3) := by decide +kernel
theorem dX8_trade_168 : decode cX8_trade 168 = .ok (.ifCond .eq 5, 3) := by decide +kernel
theorem dX8_trade_171 : decode cX8_trade 171 = .ok (.iconst 0, 1) := by decide +kernel
theorem dX8_trade_172 : decode cX8_trade 172 = .ok (.ireturn, 1) := by decide +kernel
theorem dX8_trade_173 : decode cX8_trade 173 = .ok (.aload_n 0, 1) := by decide +kernel
theorem dX8_trade_174 : decode cX8_trade 174 = .ok (.aload_n 0, 1) := by decide +kernel
theorem dX8_trade_175 : decode cX8_trade 175 = .ok (.getfield 7, 3) := by decide +kernel
theorem dX8_trade_178 : decode cX8_trade 178 = .ok (.invokevirtual 93, 3) := by decide +kernel
theorem dX8_trade_181 : decode cX8_trade 181 = .ok (.aload_n 0, 1) := by decide +kernel
theorem dX8_trade_182 : decode cX8_trade 182 = .ok (.iload_n 1, 1) := by decide +kernel
theorem dX8_trade_183 : decode cX8_trade 183 = .ok (.iload_n 2, 1) := by decide +kernel
theorem dX8_trade_184 : decode cX8_trade 184 = .ok (.iload_n 3, 1) := by decide +kernel
theorem dX8_trade_185 : decode cX8_trade 185 = .ok (.iload 4, 2) := by decide +kernel
theorem dX8_trade_187 : decode cX8_trade 187 = .ok (.iload 5, 2) := by decide +kernel
theorem dX8_trade_189 : decode cX8_trade 189 = .ok (.invokevirtual 116, 3) := by decide +kernel
theorem dX8_trade_192 : decode cX8_trade 192 = .ok (.ireturn, 1) := by decide +kernel
theorem dX8_setQuote_0 : decode cX8_setQuote 0 = .ok (.aload_n 0, 1) := by decide +kernel
theorem dX8_setQuote_1 : decode cX8_setQuote 1 = .ok (.aload_n 0, 1) := by decide +kernel
theorem dX8_setQuote_2 : decode cX8_setQuote 2 = .ok (.iload_n 1, 1) := by decide +kernel
theorem dX8_setQuote_3 : decode cX8_setQuote 3 = .ok (.invokevirtual 110, 3) := by decide +kernel
theorem dX8_setQuote_6 : decode cX8_setQuote 6 = .ok (.ifCond .ne 7, 3) := by decide +kernel
theorem dX8_setQuote_9 : decode cX8_setQuote 9 = .ok (.iconst 1, 1) := by decide +kernel
theorem dX8_setQuote_10 : decode cX8_setQuote 10 = .ok (.goto 18, 3) := by decide +kernel
theorem dX8_setQuote_13 : decode cX8_setQuote 13 = .ok (.iload_n 2, 1) := by decide +kernel
theorem dX8_setQuote_14 : decode cX8_setQuote 14 = .ok (.iconst 1, 1) := by decide +kernel
theorem dX8_setQuote_15 : decode cX8_setQuote 15 = .ok (.bipush 99, 2) := by decide +kernel
theorem dX8_setQuote_17 : decode cX8_setQuote 17 = .ok (.invokestatic 68, 3) := by decide +kernel
theorem dX8_setQuote_20 : decode cX8_setQuote 20 = .ok (.ifCond .eq 7, 3) := by decide +kernel
theorem dX8_setQuote_23 : decode cX8_setQuote 23 = .ok (.iconst 0, 1) := by decide +kernel
theorem dX8_setQuote_24 : decode cX8_setQuote 24 = .ok (.goto 4, 3) := by decide +kernel
theorem dX8_setQuote_27 : decode cX8_setQuote 27 = .ok (.iconst 2, 1) := by decide +kernel
theorem dX8_setQuote_28 : decode cX8_setQuote 28 = .ok (.invokevirtual 89, 3) := by decide +kernel
theorem dX8_setQuote_31 : decode cX8_setQuote 31 = .ok (.ifCond .eq 5, 3) := by decide +kernel
theorem dX8_setQuote_34 : decode cX8_setQuote 34 = .ok (.iconst 0, 1) := by decide +kernel
theorem dX8_setQuote_35 : decode cX8_setQuote 35 = .ok (.ireturn, 1) := by decide +kernel
theorem dX8_setQuote_36 : decode cX8_setQuote 36 = .ok (.aload_n 0, 1) := by decide +kernel
theorem dX8_setQuote_37 : decode cX8_setQuote 37 = .ok (.iload_n 1, 1) := by decide +kernel
theorem dX8_setQuote_38 : decode cX8_setQuote 38 = .ok (.iconst 1, 1) := by decide +kernel
theorem dX8_setQuote_39 : decode cX8_setQuote 39 = .ok (.invokevirtual 86, 3) := by decide +kernel
theorem dX8_setQuote_42 : decode cX8_setQuote 42 = .ok (.istore_n 3, 1) := by decide +kernel
theorem dX8_setQuote_43 : decode cX8_setQuote 43 = .ok (.aload_n 0, 1) := by decide +kernel
theorem dX8_setQuote_44 : decode cX8_setQuote 44 = .ok (.aload_n 0, 1) := by decide +kernel
theorem dX8_setQuote_45 : decode cX8_setQuote 45 = .ok (.getfield 7, 3) := by decide +kernel
theorem dX8_setQuote_48 : decode cX8_setQuote 48 = .ok (.invokevirtual 93, 3) := by decide +kernel
theorem dX8_setQuote_51 : decode cX8_setQuote 51 = .ok (.aload_n 0, 1) := by decide +kernel
theorem dX8_setQuote_52 : decode cX8_setQuote 52 = .ok (.getfield 7, 3) := by decide +kernel
theorem dX8_setQuote_55 : decode cX8_setQuote 55 = .ok (.bipush 6, 2) := by decide +kernel
theorem dX8_setQuote_57 : decode cX8_setQuote 57 = .ok (.iconst 3, 1) := by decide +kernel
theorem dX8_setQuote_58 : decode cX8_setQuote 58 = .ok (.iload_n 1, 1) := by decide +kernel
theorem dX8_setQuote_59 : decode cX8_setQuote 59 = .ok (.imul, 1) := by decide +kernel
theorem dX8_setQuote_60 : decode cX8_setQuote 60 = .ok (.iadd, 1) := by decide +kernel
theorem dX8_setQuote_61 : decode cX8_setQuote 61 = .ok (.iconst 1, 1) := by decide +kernel
theorem dX8_setQuote_62 : decode cX8_setQuote 62 = .ok (.iadd, 1) := by decide +kernel
theorem dX8_setQuote_63 : decode cX8_setQuote 63 = .ok (.iload_n 2, 1) := by decide +kernel
theorem dX8_setQuote_64 : decode cX8_setQuote 64 = .ok (.iastore, 1) := by decide +kernel
theorem dX8_setQuote_65 : decode cX8_setQuote 65 = .ok (.iload_n 3, 1) := by decide +kernel
theorem dX8_setQuote_66 : decode cX8_setQuote 66 = .ok (.ireturn, 1) := by decide +kernel
theorem dX8_goesWith_0 : decode cX8_goesWith 0 = .ok (.iconst 0, 1) := by decide +kernel
theorem dX8_goesWith_1 : decode cX8_goesWith 1 = .ok (.istore 4, 2) := by decide +kernel
theorem dX8_goesWith_3 : decode cX8_goesWith 3 = .ok (.iconst 0, 1) := by decide +kernel
theorem dX8_goesWith_4 : decode cX8_goesWith 4 = .ok (.istore 5, 2) := by decide +kernel
theorem dX8_goesWith_6 : decode cX8_goesWith 6 = .ok (.iload 5, 2) := by decide +kernel
theorem dX8_goesWith_8 : decode cX8_goesWith 8 = .ok (.aload_n 0, 1) := by decide +kernel
theorem dX8_goesWith_9 : decode cX8_goesWith 9 = .ok (.getfield 7, 3) := by decide +kernel
theorem dX8_goesWith_12 : decode cX8_goesWith 12 = .ok (.iconst 2, 1) := by decide +kernel
theorem dX8_goesWith_13 : decode cX8_goesWith 13 = .ok (.iaload, 1) := by decide +kernel
theorem dX8_goesWith_14 : decode cX8_goesWith 14 = .ok (.if_icmp .ge 94, 3) := by decide +kernel
theorem dX8_goesWith_17 : decode cX8_goesWith 17 = .ok (.aload_n 0, 1) := by decide +kernel
theorem dX8_goesWith_18 : decode cX8_goesWith 18 = .ok (.iload 5, 2) := by decide +kernel
theorem dX8_goesWith_20 : decode cX8_goesWith 20 = .ok (.iconst 2, 1) := by decide +kernel
theorem dX8_goesWith_21 : decode cX8_goesWith 21 = .ok (.invokevirtual 76, 3) := by decide +kernel
theorem dX8_goesWith_24 : decode cX8_goesWith 24 = .ok (.iload_n 3, 1) := by decide +kernel
theorem dX8_goesWith_25 : decode cX8_goesWith 25 = .ok (.if_icmp .eq 6, 3) := by decide +kernel
theorem dX8_goesWith_28 : decode cX8_goesWith 28 = .ok (.goto 74, 3) := by decide +kernel
theorem dX8_goesWith_31 : decode cX8_goesWith 31 = .ok (.iload 4, 2) := by decide +kernel
theorem dX8_goesWith_33 : decode cX8_goesWith 33 = .ok (.aload_n 0, 1) := by decide +kernel
theorem dX8_goesWith_34 : decode cX8_goesWith 34 = .ok (.iload 5, 2) := by decide +kernel
theorem dX8_goesWith_36 : decode cX8_goesWith 36 = .ok (.iconst 0, 1) := by decide +kernel
theorem dX8_goesWith_37 : decode cX8_goesWith 37 = .ok (.invokevirtual 76, 3) := by decide +kernel
theorem dX8_goesWith_40 : decode cX8_goesWith 40 = .ok (.iload_n 2, 1) := by decide +kernel
theorem dX8_goesWith_41 : decode cX8_goesWith 41 = .ok (.if_icmp .ne 24, 3) := by decide +kernel
theorem dX8_goesWith_44 : decode cX8_goesWith 44 = .ok (.aload_n 0, 1) := by decide +kernel
theorem dX8_goesWith_45 : decode cX8_goesWith 45 = .ok (.iload 5, 2) := by decide +kernel
theorem dX8_goesWith_47 : decode cX8_goesWith 47 = .ok (.iconst 1, 1) := by decide +kernel
theorem dX8_goesWith_48 : decode cX8_goesWith 48 = .ok (.invokevirtual 76, 3) := by decide +kernel
theorem dX8_goesWith_51 : decode cX8_goesWith 51 = .ok (.iload_n 1, 1) := by decide +kernel
theorem dX8_goesWith_52 : decode cX8_goesWith 52 = .ok (.if_icmp .ne 13, 3) := by decide +kernel
theorem dX8_goesWith_55 : decode cX8_goesWith 55 = .ok (.aload_n 0, 1) := by decide +kernel
theorem dX8_goesWith_56 : decode cX8_goesWith 56 = .ok (.iload 5, 2) := by decide +kernel
theorem dX8_goesWith_58 : decode cX8_goesWith 58 = .ok (.iconst 3, 1) := by decide +kernel
theorem dX8_goesWith_59 : decode cX8_goesWith 59 = .ok (.invokevirtual 76, 3) := by decide +kernel
theorem dX8_goesWith_62 : decode cX8_goesWith 62 = .ok (.goto 37, 3) := by decide +kernel
theorem dX8_goesWith_65 : decode cX8_goesWith 65 = .ok (.aload_n 0, 1) := by decide +kernel
theorem dX8_goesWith_66 : decode cX8_goesWith 66 = .ok (.iload 5, 2) := by decide +kernel
theorem dX8_goesWith_68 : decode cX8_goesWith 68 = .ok (.iconst 1, 1) := by decide +kernel
theorem dX8_goesWith_69 : decode cX8_goesWith 69 = .ok (.invokevirtual 76, 3) := by decide +kernel
theorem dX8_goesWith_72 : decode cX8_goesWith 72 = .ok (.iload_n 2, 1) := by decide +kernel
theorem dX8_goesWith_73 : decode cX8_goesWith 73 = .ok (.if_icmp .ne 25, 3) := by decide +kernel
theorem dX8_goesWith_76 : decode cX8_goesWith 76 = .ok (.aload_n 0, 1) := by decide +kernel
theorem dX8_goesWith_77 : decode cX8_goesWith 77 = .ok (.iload 5, 2) := by decide +kernel
theorem dX8_goesWith_79 : decode cX8_goesWith 79 = .ok (.iconst 0, 1) := by decide +kernel
theorem dX8_goesWith_80 : decode cX8_goesWith 80 = .ok (.invokevirtual 76, 3) := by decide +kernel
theorem dX8_goesWith_83 : decode cX8_goesWith 83 = .ok (.iload_n 1, 1) := by decide +kernel
theorem dX8_goesWith_84 : decode cX8_goesWith 84 = .ok (.if_icmp .ne 14, 3) := by decide +kernel
theorem dX8_goesWith_87 : decode cX8_goesWith 87 = .ok (.aload_n 0, 1) := by decide +kernel
theorem dX8_goesWith_88 : decode cX8_goesWith 88 = .ok (.iload 5, 2) := by decide +kernel
theorem dX8_goesWith_90 : decode cX8_goesWith 90 = .ok (.iconst 3, 1) := by decide +kernel
theorem dX8_goesWith_91 : decode cX8_goesWith 91 = .ok (.invokevirtual 76, 3) := by decide +kernel
theorem dX8_goesWith_94 : decode cX8_goesWith 94 = .ok (.ineg, 1) := by decide +kernel
theorem dX8_goesWith_95 : decode cX8_goesWith 95 = .ok (.goto 4, 3) := by decide +kernel
theorem dX8_goesWith_98 : decode cX8_goesWith 98 = .ok (.iconst 0, 1) := by decide +kernel
theorem dX8_goesWith_99 : decode cX8_goesWith 99 = .ok (.iadd, 1) := by decide +kernel
theorem dX8_goesWith_100 : decode cX8_goesWith 100 = .ok (.istore 4, 2) := by decide +kernel
theorem dX8_goesWith_102 : decode cX8_goesWith 102 = .ok (.iinc 5 1, 3) := by decide +kernel
theorem dX8_goesWith_105 : decode cX8_goesWith 105 = .ok (.goto (-99), 3) := by decide +kernel
theorem dX8_goesWith_108 : decode cX8_goesWith 108 = .ok (.iload 4, 2) := by decide +kernel
theorem dX8_goesWith_110 : decode cX8_goesWith 110 = .ok (.ireturn, 1) := by decide +kernel
theorem dX8_laysWay_0 : decode cX8_laysWay 0 = .ok (.iload_n 2, 1) := by decide +kernel
theorem dX8_laysWay_1 : decode cX8_laysWay 1 = .ok (.istore_n 3, 1) := by decide +kernel
theorem dX8_laysWay_2 : decode cX8_laysWay 2 = .ok (.iconst 0, 1) := by decide +kernel
theorem dX8_laysWay_3 : decode cX8_laysWay 3 = .ok (.istore 4, 2) := by decide +kernel
theorem dX8_laysWay_5 : decode cX8_laysWay 5 = .ok (.aload_n 0, 1) := by decide +kernel
theorem dX8_laysWay_6 : decode cX8_laysWay 6 = .ok (.getfield 7, 3) := by decide +kernel
theorem dX8_laysWay_9 : decode cX8_laysWay 9 = .ok (.iconst 0, 1) := by decide +kernel
theorem dX8_laysWay_10 : decode cX8_laysWay 10 = .ok (.iaload, 1) := by decide +kernel
theorem dX8_laysWay_11 : decode cX8_laysWay 11 = .ok (.iconst 1, 1) := by decide +kernel
theorem dX8_laysWay_12 : decode cX8_laysWay 12 = .ok (.isub, 1) := by decide +kernel
theorem dX8_laysWay_13 : decode cX8_laysWay 13 = .ok (.istore 5, 2) := by decide +kernel
theorem dX8_laysWay_15 : decode cX8_laysWay 15 = .ok (.iload 5, 2) := by decide +kernel
theorem dX8_laysWay_17 : decode cX8_laysWay 17 = .ok (.ifCond .lt 102, 3) := by decide +kernel
theorem dX8_laysWay_20 : decode cX8_laysWay 20 = .ok (.iload_n 3, 1) := by decide +kernel
theorem dX8_laysWay_21 : decode cX8_laysWay 21 = .ok (.bipush 6, 2) := by decide +kernel
theorem dX8_laysWay_23 : decode cX8_laysWay 23 = .ok (.irem, 1) := by decide +kernel
theorem dX8_laysWay_24 : decode cX8_laysWay 24 = .ok (.istore 6, 2) := by decide +kernel
theorem dX8_laysWay_26 : decode cX8_laysWay 26 = .ok (.iload_n 3, 1) := by decide +kernel
theorem dX8_laysWay_27 : decode cX8_laysWay 27 = .ok (.bipush 6, 2) := by decide +kernel
theorem dX8_laysWay_29 : decode cX8_laysWay 29 = .ok (.idiv, 1) := by decide +kernel
theorem dX8_laysWay_30 : decode cX8_laysWay 30 = .ok (.istore_n 3, 1) := by decide +kernel
theorem dX8_laysWay_31 : decode cX8_laysWay 31 = .ok (.aload_n 0, 1) := by decide +kernel
theorem dX8_laysWay_32 : decode cX8_laysWay 32 = .ok (.getfield 36, 3) := by decide +kernel
theorem dX8_laysWay_35 : decode cX8_laysWay 35 = .ok (.iload 5, 2) := by decide +kernel
theorem dX8_laysWay_37 : decode cX8_laysWay 37 = .ok (.iconst (-1), 1) := by decide +kernel
theorem dX8_laysWay_38 : decode cX8_laysWay 38 = .ok (.iastore, 1) := by decide +kernel
theorem dX8_laysWay_39 : decode cX8_laysWay 39 = .ok (.aload_n 0, 1) := by decide +kernel
theorem dX8_laysWay_40 : decode cX8_laysWay 40 = .ok (.iload_n 1, 1) := by decide +kernel
theorem dX8_laysWay_41 : decode cX8_laysWay 41 = .ok (.iload 5, 2) := by decide +kernel
theorem dX8_laysWay_43 : decode cX8_laysWay 43 = .ok (.invokevirtual 79, 3) := by decide +kernel
theorem dX8_laysWay_46 : decode cX8_laysWay 46 = .ok (.ifCond .ne 10, 3) := by decide +kernel
theorem dX8_laysWay_49 : decode cX8_laysWay 49 = .ok (.iload 6, 2) := by decide +kernel
theorem dX8_laysWay_51 : decode cX8_laysWay 51 = .ok (.ifCond .le 62, 3) := by decide +kernel
theorem dX8_laysWay_54 : decode cX8_laysWay 54 = .ok (.iconst 0, 1) := by decide +kernel
theorem dX8_laysWay_55 : decode cX8_laysWay 55 = .ok (.ireturn, 1) := by decide +kernel
theorem dX8_laysWay_56 : decode cX8_laysWay 56 = .ok (.iload 6, 2) := by decide +kernel
theorem dX8_laysWay_58 : decode cX8_laysWay 58 = .ok (.aload_n 0, 1) := by decide +kernel
theorem dX8_laysWay_59 : decode cX8_laysWay 59 = .ok (.getfield 7, 3) := by decide +kernel
theorem dX8_laysWay_62 : decode cX8_laysWay 62 = .ok (.iconst 1, 1) := by decide +kernel
theorem dX8_laysWay_63 : decode cX8_laysWay 63 = .ok (.iaload, 1) := by decide +kernel
theorem dX8_laysWay_64 : decode cX8_laysWay 64 = .ok (.if_icmp .ge 29, 3) := by decide +kernel
theorem dX8_laysWay_67 : decode cX8_laysWay 67 = .ok (.iload 6, 2) := by decide +kernel
theorem dX8_laysWay_69 : decode cX8_laysWay 69 = .ok (.iload_n 1, 1) := by decide +kernel
theorem dX8_laysWay_70 : decode cX8_laysWay 70 = .ok (.if_icmp .eq 23, 3) := by decide +kernel
theorem dX8_laysWay_73 : decode cX8_laysWay 73 = .ok (.aload_n 0, 1) := by decide +kernel
theorem dX8_laysWay_74 : decode cX8_laysWay 74 = .ok (.iload 6, 2) := by decide +kernel
theorem dX8_laysWay_76 : decode cX8_laysWay 76 = .ok (.invokevirtual 113, 3) := by decide +kernel
theorem dX8_laysWay_79 : decode cX8_laysWay 79 = .ok (.ifCond .eq 14, 3) := by decide +kernel
theorem dX8_laysWay_82 : decode cX8_laysWay 82 = .ok (.iload 4, 2) := by decide +kernel
theorem dX8_laysWay_84 : decode cX8_laysWay 84 = .ok (.iload 6, 2) := by decide +kernel
theorem dX8_laysWay_86 : decode cX8_laysWay 86 = .ok (.ishr, 1) := by decide +kernel
theorem dX8_laysWay_87 : decode cX8_laysWay 87 = .ok (.iconst 1, 1) := by decide +kernel
theorem dX8_laysWay_88 : decode cX8_laysWay 88 = .ok (.iand, 1) := by decide +kernel
theorem dX8_laysWay_89 : decode cX8_laysWay 89 = .ok (.iconst 1, 1) := by decide +kernel
theorem dX8_laysWay_90 : decode cX8_laysWay 90 = .ok (.if_icmp .ne 5, 3) := by decide +kernel
theorem dX8_laysWay_93 : decode cX8_laysWay 93 = .ok (.iconst 0, 1) := by decide +kernel
theorem dX8_laysWay_94 : decode cX8_laysWay 94 = .ok (.ireturn, 1) := by decide +kernel
theorem dX8_laysWay_95 : decode cX8_laysWay 95 = .ok (.iload 4, 2) := by decide +kernel
theorem dX8_laysWay_97 : decode cX8_laysWay 97 = .ok (.iconst 1, 1) := by decide +kernel
theorem dX8_laysWay_98 : decode cX8_laysWay 98 = .ok (.iload 6, 2) := by decide +kernel
theorem dX8_laysWay_100 : decode cX8_laysWay 100 = .ok (.ishl, 1) := by decide +kernel
theorem dX8_laysWay_101 : decode cX8_laysWay 101 = .ok (.ior, 1) := by decide +kernel
theorem dX8_laysWay_102 : decode cX8_laysWay 102 = .ok (.istore 4, 2) := by decide +kernel
theorem dX8_laysWay_104 : decode cX8_laysWay 104 = .ok (.aload_n 0, 1) := by decide +kernel
theorem dX8_laysWay_105 : decode cX8_laysWay 105 = .ok (.getfield 36, 3) := by decide +kernel
theorem dX8_laysWay_108 : decode cX8_laysWay 108 = .ok (.iload 5, 2) := by decide +kernel
theorem dX8_laysWay_110 : decode cX8_laysWay 110 = .ok (.iload 6, 2) := by decide +kernel
theorem dX8_laysWay_112 : decode cX8_laysWay 112 = .ok (.iastore, 1) := by decide +kernel
theorem dX8_laysWay_113 : decode cX8_laysWay 113 = .ok (.iinc 5 (-1), 3) := by decide +kernel
theorem dX8_laysWay_116 : decode cX8_laysWay 116 = .ok (.goto (-101), 3) := by decide +kernel
theorem dX8_laysWay_119 : decode cX8_laysWay 119 = .ok (.iconst 1, 1) := by decide +kernel
theorem dX8_laysWay_120 : decode cX8_laysWay 120 = .ok (.ireturn, 1) := by decide +kernel
theorem dX8_marginsAfter_0 : decode cX8_marginsAfter 0 = .ok (.iconst 0, 1) := by decide +kernel
theorem dX8_marginsAfter_1 : decode cX8_marginsAfter 1 = .ok (.istore_n 2, 1) := by decide +kernel
theorem dX8_marginsAfter_2 : decode cX8_marginsAfter 2 = .ok (.iconst 0, 1) := by decide +kernel
theorem dX8_marginsAfter_3 : decode cX8_marginsAfter 3 = .ok (.istore_n 3, 1) := by decide +kernel
theorem dX8_marginsAfter_4 : decode cX8_marginsAfter 4 = .ok (.iload_n 3, 1) := by decide +kernel
theorem dX8_marginsAfter_5 : decode cX8_marginsAfter 5 = .ok (.aload_n 0, 1) := by decide +kernel
theorem dX8_marginsAfter_6 : decode cX8_marginsAfter 6 = .ok (.getfield 7, 3) := by decide +kernel
theorem dX8_marginsAfter_9 : decode cX8_marginsAfter 9 = .ok (.iconst 1, 1) := by decide +kernel
theorem dX8_marginsAfter_10 : decode cX8_marginsAfter 10 = .ok (.iaload, 1) := by decide +kernel
theorem dX8_marginsAfter_11 : decode cX8_marginsAfter 11 = .ok (.if_icmp .ge 115, 3) := by decide +kernel
theorem dX8_marginsAfter_14 : decode cX8_marginsAfter 14 = .ok (.iload_n 3, 1) := by decide +kernel
theorem dX8_marginsAfter_15 : decode cX8_marginsAfter 15 = .ok (.iload_n 1, 1) := by decide +kernel
theorem dX8_marginsAfter_16 : decode cX8_marginsAfter 16 = .ok (.if_icmp .eq 104, 3) := by decide +kernel
theorem dX8_marginsAfter_19 : decode cX8_marginsAfter 19 = .ok (.aload_n 0, 1) := by decide +kernel
theorem dX8_marginsAfter_20 : decode cX8_marginsAfter 20 = .ok (.iload_n 3, 1) := by decide +kernel
theorem dX8_marginsAfter_21 : decode cX8_marginsAfter 21 = .ok (.invokevirtual 113, 3) := by decide +kernel
theorem dX8_marginsAfter_24 : decode cX8_marginsAfter 24 = .ok (.ifCond .ne 6, 3) := by decide +kernel
theorem dX8_marginsAfter_27 : decode cX8_marginsAfter 27 = .ok (.goto 93, 3) := by decide +kernel
theorem dX8_marginsAfter_30 : decode cX8_marginsAfter 30 = .ok (.iconst 0, 1) := by decide +kernel
theorem dX8_marginsAfter_31 : decode cX8_marginsAfter 31 = .ok (.istore 4, 2) := by decide +kernel
theorem dX8_marginsAfter_33 : decode cX8_marginsAfter 33 = .ok (.iload 4, 2) := by decide +kernel
theorem dX8_marginsAfter_35 : decode cX8_marginsAfter 35 = .ok (.aload_n 0, 1) := by decide +kernel
theorem dX8_marginsAfter_36 : decode cX8_marginsAfter 36 = .ok (.getfield 7, 3) := by decide +kernel
theorem dX8_marginsAfter_39 : decode cX8_marginsAfter 39 = .ok (.iconst 0, 1) := by decide +kernel
theorem dX8_marginsAfter_40 : decode cX8_marginsAfter 40 = .ok (.iaload, 1) := by decide +kernel
theorem dX8_marginsAfter_41 : decode cX8_marginsAfter 41 = .ok (.if_icmp .ge 79, 3) := by decide +kernel
theorem dX8_marginsAfter_44 : decode cX8_marginsAfter 44 = .ok (.aload_n 0, 1) := by decide +kernel
theorem dX8_marginsAfter_45 : decode cX8_marginsAfter 45 = .ok (.iload_n 1, 1) := by decide +kernel
theorem dX8_marginsAfter_46 : decode cX8_marginsAfter 46 = .ok (.iload 4, 2) := by decide +kernel
theorem dX8_marginsAfter_48 : decode cX8_marginsAfter 48 = .ok (.invokevirtual 79, 3) := by decide +kernel
theorem dX8_marginsAfter_51 : decode cX8_marginsAfter 51 = .ok (.istore 5, 2) := by decide +kernel
theorem dX8_marginsAfter_53 : decode cX8_marginsAfter 53 = .ok (.aload_n 0, 1) := by decide +kernel
theorem dX8_marginsAfter_54 : decode cX8_marginsAfter 54 = .ok (.iload_n 3, 1) := by decide +kernel
theorem dX8_marginsAfter_55 : decode cX8_marginsAfter 55 = .ok (.iload 4, 2) := by decide +kernel
theorem dX8_marginsAfter_57 : decode cX8_marginsAfter 57 = .ok (.invokevirtual 79, 3) := by decide +kernel
theorem dX8_marginsAfter_60 : decode cX8_marginsAfter 60 = .ok (.aload_n 0, 1) := by decide +kernel
theorem dX8_marginsAfter_61 : decode cX8_marginsAfter 61 = .ok (.getfield 36, 3) := by decide +kernel
theorem dX8_marginsAfter_64 : decode cX8_marginsAfter 64 = .ok (.iload 4, 2) := by decide +kernel
theorem dX8_marginsAfter_66 : decode cX8_marginsAfter 66 = .ok (.iaload, 1) := by decide +kernel
theorem dX8_marginsAfter_67 : decode cX8_marginsAfter 67 = .ok (.iload_n 3, 1) := by decide +kernel
theorem dX8_marginsAfter_68 : decode cX8_marginsAfter 68 = .ok (.if_icmp .ne 8, 3) := by decide +kernel
theorem dX8_marginsAfter_71 : decode cX8_marginsAfter 71 = .ok (.iload 5, 2) := by decide +kernel
theorem dX8_marginsAfter_73 : decode cX8_marginsAfter 73 = .ok (.goto 4, 3) := by decide +kernel
theorem dX8_marginsAfter_76 : decode cX8_marginsAfter 76 = .ok (.iconst 0, 1) := by decide +kernel
theorem dX8_marginsAfter_77 : decode cX8_marginsAfter 77 = .ok (.iadd, 1) := by decide +kernel
theorem dX8_marginsAfter_78 : decode cX8_marginsAfter 78 = .ok (.iload 5, 2) := by decide +kernel
theorem dX8_marginsAfter_80 : decode cX8_marginsAfter 80 = .ok (.ifCond .ne 14, 3) := by decide +kernel
theorem dX8_marginsAfter_83 : decode cX8_marginsAfter 83 = .ok (.aload_n 0, 1) := by decide +kernel
theorem dX8_marginsAfter_84 : decode cX8_marginsAfter 84 = .ok (.iload_n 1, 1) := by decide +kernel
theorem dX8_marginsAfter_85 : decode cX8_marginsAfter 85 = .ok (.iload_n 3, 1) := by decide +kernel
theorem dX8_marginsAfter_86 : decode cX8_marginsAfter 86 = .ok (.iload 4, 2) := by decide +kernel
theorem dX8_marginsAfter_88 : decode cX8_marginsAfter 88 = .ok (.invokevirtual 128, 3) := by decide +kernel
theorem dX8_marginsAfter_91 : decode cX8_marginsAfter 91 = .ok (.goto 4, 3) := by decide +kernel
theorem dX8_marginsAfter_94 : decode cX8_marginsAfter 94 = .ok (.iconst 0, 1) := by decide +kernel
theorem dX8_marginsAfter_95 : decode cX8_marginsAfter 95 = .ok (.isub, 1) := by decide +kernel
theorem dX8_marginsAfter_96 : decode cX8_marginsAfter 96 = .ok (.istore 6, 2) := by decide +kernel
theorem dX8_marginsAfter_98 : decode cX8_marginsAfter 98 = .ok (.iload_n 2, 1) := by decide +kernel
theorem dX8_marginsAfter_99 : decode cX8_marginsAfter 99 = .ok (.iload 6, 2) := by decide +kernel
theorem dX8_marginsAfter_101 : decode cX8_marginsAfter 101 = .ok (.invokestatic 82, 3) := by decide +kernel
theorem dX8_marginsAfter_104 : decode cX8_marginsAfter 104 = .ok (.aload_n 0, 1) := by decide +kernel
theorem dX8_marginsAfter_105 : decode cX8_marginsAfter 105 = .ok (.iload 4, 2) := by decide +kernel
theorem dX8_marginsAfter_107 : decode cX8_marginsAfter 107 = .ok (.iconst 2, 1) := by decide +kernel
theorem dX8_marginsAfter_108 : decode cX8_marginsAfter 108 = .ok (.invokevirtual 86, 3) := by decide +kernel
theorem dX8_marginsAfter_111 : decode cX8_marginsAfter 111 = .ok (.imul, 1) := by decide +kernel
theorem dX8_marginsAfter_112 : decode cX8_marginsAfter 112 = .ok (.iadd, 1) := by decide +kernel
theorem dX8_marginsAfter_113 : decode cX8_marginsAfter 113 = .ok (.istore_n 2, 1) := by decide +kernel
theorem dX8_marginsAfter_114 : decode cX8_marginsAfter 114 = .ok (.iinc 4 1, 3) := by decide +kernel
theorem dX8_marginsAfter_117 : decode cX8_marginsAfter 117 = .ok (.goto (-84), 3) := by decide +kernel
theorem dX8_marginsAfter_120 : decode cX8_marginsAfter 120 = .ok (.iinc 3 1, 3) := by decide +kernel
theorem dX8_marginsAfter_123 : decode cX8_marginsAfter 123 = .ok (.goto (-119), 3) := by decide +kernel
theorem dX8_marginsAfter_126 : decode cX8_marginsAfter 126 = .ok (.iload_n 2, 1) := by decide +kernel
theorem dX8_marginsAfter_127 : decode cX8_marginsAfter 127 = .ok (.ireturn, 1) := by decide +kernel
theorem dX8_least_0 : decode cX8_least 0 = .ok (.aload_n 0, 1) := by decide +kernel
theorem dX8_least_1 : decode cX8_least 1 = .ok (.iconst 0, 1) := by decide +kernel
theorem dX8_least_2 : decode cX8_least 2 = .ok (.putfield 132, 3) := by decide +kernel
theorem dX8_least_5 : decode cX8_least 5 = .ok (.aload_n 0, 1) := by decide +kernel
theorem dX8_least_6 : decode cX8_least 6 = .ok (.iconst 0, 1) := by decide +kernel
theorem dX8_least_7 : decode cX8_least 7 = .ok (.putfield 135, 3) := by decide +kernel
theorem dX8_least_10 : decode cX8_least 10 = .ok (.iconst 0, 1) := by decide +kernel
theorem dX8_least_11 : decode cX8_least 11 = .ok (.istore_n 2, 1) := by decide +kernel
theorem dX8_least_12 : decode cX8_least 12 = .ok (.iload_n 2, 1) := by decide +kernel
theorem dX8_least_13 : decode cX8_least 13 = .ok (.aload_n 0, 1) := by decide +kernel
theorem dX8_least_14 : decode cX8_least 14 = .ok (.getfield 7, 3) := by decide +kernel
theorem dX8_least_17 : decode cX8_least 17 = .ok (.iconst 0, 1) := by decide +kernel
theorem dX8_least_18 : decode cX8_least 18 = .ok (.iaload, 1) := by decide +kernel
theorem dX8_least_19 : decode cX8_least 19 = .ok (.if_icmp .ge 32, 3) := by decide +kernel
theorem dX8_least_22 : decode cX8_least 22 = .ok (.aload_n 0, 1) := by decide +kernel
theorem dX8_least_23 : decode cX8_least 23 = .ok (.dup, 1) := by decide +kernel
theorem dX8_least_24 : decode cX8_least 24 = .ok (.getfield 132, 3) := by decide +kernel
theorem dX8_least_27 : decode cX8_least 27 = .ok (.aload_n 0, 1) := by decide +kernel
theorem dX8_least_28 : decode cX8_least 28 = .ok (.iload_n 1, 1) := by decide +kernel
theorem dX8_least_29 : decode cX8_least 29 = .ok (.iload_n 2, 1) := by decide +kernel
theorem dX8_least_30 : decode cX8_least 30 = .ok (.invokevirtual 79, 3) := by decide +kernel
theorem dX8_least_33 : decode cX8_least 33 = .ok (.ifCond .ne 7, 3) := by decide +kernel
theorem dX8_least_36 : decode cX8_least 36 = .ok (.iconst 0, 1) := by decide +kernel
theorem dX8_least_37 : decode cX8_least 37 = .ok (.goto 4, 3) := by decide +kernel
theorem dX8_least_40 : decode cX8_least 40 = .ok (.iconst 1, 1) := by decide +kernel
theorem dX8_least_41 : decode cX8_least 41 = .ok (.iadd, 1) := by decide +kernel
theorem dX8_least_42 : decode cX8_least 42 = .ok (.putfield 132, 3) := by decide +kernel
theorem dX8_least_45 : decode cX8_least 45 = .ok (.iinc 2 1, 3) := by decide +kernel
theorem dX8_least_48 : decode cX8_least 48 = .ok (.goto (-36), 3) := by decide +kernel
theorem dX8_least_51 : decode cX8_least 51 = .ok (.iconst 0, 1) := by decide +kernel
theorem dX8_least_52 : decode cX8_least 52 = .ok (.istore_n 2, 1) := by decide +kernel
theorem dX8_least_53 : decode cX8_least 53 = .ok (.iload_n 2, 1) := by decide +kernel
theorem dX8_least_54 : decode cX8_least 54 = .ok (.aload_n 0, 1) := by decide +kernel
theorem dX8_least_55 : decode cX8_least 55 = .ok (.getfield 7, 3) := by decide +kernel
theorem dX8_least_58 : decode cX8_least 58 = .ok (.iconst 1, 1) := by decide +kernel
theorem dX8_least_59 : decode cX8_least 59 = .ok (.iaload, 1) := by decide +kernel
theorem dX8_least_60 : decode cX8_least 60 = .ok (.if_icmp .ge 36, 3) := by decide +kernel
theorem dX8_least_63 : decode cX8_least 63 = .ok (.aload_n 0, 1) := by decide +kernel
theorem dX8_least_64 : decode cX8_least 64 = .ok (.dup, 1) := by decide +kernel
theorem dX8_least_65 : decode cX8_least 65 = .ok (.getfield 135, 3) := by decide +kernel
theorem dX8_least_68 : decode cX8_least 68 = .ok (.iload_n 2, 1) := by decide +kernel
theorem dX8_least_69 : decode cX8_least 69 = .ok (.iload_n 1, 1) := by decide +kernel
theorem dX8_least_70 : decode cX8_least 70 = .ok (.if_icmp .eq 15, 3) := by decide +kernel
theorem dX8_least_73 : decode cX8_least 73 = .ok (.aload_n 0, 1) := by decide +kernel
theorem dX8_least_74 : decode cX8_least 74 = .ok (.iload_n 2, 1) := by decide +kernel
theorem dX8_least_75 : decode cX8_least 75 = .ok (.invokevirtual 113, 3) := by decide +kernel
theorem dX8_least_78 : decode cX8_least 78 = .ok (.ifCond .eq 7, 3) := by decide +kernel
theorem dX8_least_81 : decode cX8_least 81 = .ok (.iconst 1, 1) := by decide +kernel
theorem dX8_least_82 : decode cX8_least 82 = .ok (.goto 4, 3) := by decide +kernel
theorem dX8_least_85 : decode cX8_least 85 = .ok (.iconst 0, 1) := by decide +kernel
theorem dX8_least_86 : decode cX8_least 86 = .ok (.iadd, 1) := by decide +kernel
theorem dX8_least_87 : decode cX8_least 87 = .ok (.putfield 135, 3) := by decide +kernel
theorem dX8_least_90 : decode cX8_least 90 = .ok (.iinc 2 1, 3) := by decide +kernel
theorem dX8_least_93 : decode cX8_least 93 = .ok (.goto (-40), 3) := by decide +kernel
theorem dX8_least_96 : decode cX8_least 96 = .ok (.aload_n 0, 1) := by decide +kernel
theorem dX8_least_97 : decode cX8_least 97 = .ok (.getfield 135, 3) := by decide +kernel
theorem dX8_least_100 : decode cX8_least 100 = .ok (.aload_n 0, 1) := by decide +kernel
theorem dX8_least_101 : decode cX8_least 101 = .ok (.getfield 132, 3) := by decide +kernel
theorem dX8_least_104 : decode cX8_least 104 = .ok (.if_icmp .ge 5, 3) := by decide +kernel
theorem dX8_least_107 : decode cX8_least 107 = .ok (.iconst (-1), 1) := by decide +kernel
theorem dX8_least_108 : decode cX8_least 108 = .ok (.ireturn, 1) := by decide +kernel
theorem dX8_least_109 : decode cX8_least 109 = .ok (.iconst 1, 1) := by decide +kernel
theorem dX8_least_110 : decode cX8_least 110 = .ok (.istore_n 2, 1) := by decide +kernel
theorem dX8_least_111 : decode cX8_least 111 = .ok (.iconst 0, 1) := by decide +kernel
theorem dX8_least_112 : decode cX8_least 112 = .ok (.istore_n 3, 1) := by decide +kernel
theorem dX8_least_113 : decode cX8_least 113 = .ok (.iload_n 3, 1) := by decide +kernel
theorem dX8_least_114 : decode cX8_least 114 = .ok (.aload_n 0, 1) := by decide +kernel
theorem dX8_least_115 : decode cX8_least 115 = .ok (.getfield 7, 3) := by decide +kernel
theorem dX8_least_118 : decode cX8_least 118 = .ok (.iconst 0, 1) := by decide +kernel
theorem dX8_least_119 : decode cX8_least 119 = .ok (.iaload, 1) := by decide +kernel
theorem dX8_least_120 : decode cX8_least 120 = .ok (.if_icmp .ge 14, 3) := by decide +kernel
theorem dX8_least_123 : decode cX8_least 123 = .ok (.iload_n 2, 1) := by decide +kernel
theorem dX8_least_124 : decode cX8_least 124 = .ok (.bipush 6, 2) := by decide +kernel
theorem dX8_least_126 : decode cX8_least 126 = .ok (.imul, 1) := by decide +kernel
theorem dX8_least_127 : decode cX8_least 127 = .ok (.istore_n 2, 1) := by decide +kernel
theorem dX8_least_128 : decode cX8_least 128 = .ok (.iinc 3 1, 3) := by decide +kernel
theorem dX8_least_131 : decode cX8_least 131 = .ok (.goto (-18), 3) := by decide +kernel
theorem dX8_least_134 : decode cX8_least 134 = .ok (.iconst (-1), 1) := by decide +kernel
theorem dX8_least_135 : decode cX8_least 135 = .ok (.istore_n 3, 1) := by decide +kernel
theorem dX8_least_136 : decode cX8_least 136 = .ok (.iconst 0, 1) := by decide +kernel
theorem dX8_least_137 : decode cX8_least 137 = .ok (.istore 4, 2) := by decide +kernel
theorem dX8_least_139 : decode cX8_least 139 = .ok (.iload 4, 2) := by decide +kernel
theorem dX8_least_141 : decode cX8_least 141 = .ok (.iload_n 2, 1) := by decide +kernel
theorem dX8_least_142 : decode cX8_least 142 = .ok (.if_icmp .ge 74, 3) := by decide +kernel
theorem dX8_least_145 : decode cX8_least 145 = .ok (.aload_n 0, 1) := by decide +kernel
theorem dX8_least_146 : decode cX8_least 146 = .ok (.iload_n 1, 1) := by decide +kernel
theorem dX8_least_147 : decode cX8_least 147 = .ok (.iload 4, 2) := by decide +kernel
theorem dX8_least_149 : decode cX8_least 149 = .ok (.invokevirtual 138, 3) := by decide +kernel
theorem dX8_least_152 : decode cX8_least 152 = .ok (.ifCond .ne 6, 3) := by decide +kernel
theorem dX8_least_155 : decode cX8_least 155 = .ok (.goto 55, 3) := by decide +kernel
theorem dX8_least_158 : decode cX8_least 158 = .ok (.aload_n 0, 1) := by decide +kernel
theorem dX8_least_159 : decode cX8_least 159 = .ok (.iload_n 1, 1) := by decide +kernel
theorem dX8_least_160 : decode cX8_least 160 = .ok (.invokevirtual 141, 3) := by decide +kernel
theorem dX8_least_163 : decode cX8_least 163 = .ok (.istore 5, 2) := by decide +kernel
theorem dX8_least_165 : decode cX8_least 165 = .ok (.iload_n 3, 1) := by decide +kernel
theorem dX8_least_166 : decode cX8_least 166 = .ok (.ifCond .lt 12, 3) := by decide +kernel
theorem dX8_least_169 : decode cX8_least 169 = .ok (.iload 5, 2) := by decide +kernel
theorem dX8_least_171 : decode cX8_least 171 = .ok (.iload_n 3, 1) := by decide +kernel
theorem dX8_least_172 : decode cX8_least 172 = .ok (.if_icmp .lt 6, 3) := by decide +kernel
theorem dX8_least_175 : decode cX8_least 175 = .ok (.goto 35, 3) := by decide +kernel
theorem dX8_least_178 : decode cX8_least 178 = .ok (.iload 5, 2) := by decide +kernel
theorem dX8_least_180 : decode cX8_least 180 = .ok (.istore_n 3, 1) := by decide +kernel
theorem dX8_least_181 : decode cX8_least 181 = .ok (.iconst 0, 1) := by decide +kernel
theorem dX8_least_182 : decode cX8_least 182 = .ok (.istore 6, 2) := by decide +kernel
theorem dX8_least_184 : decode cX8_least 184 = .ok (.iload 6, 2) := by decide +kernel
theorem dX8_least_186 : decode cX8_least 186 = .ok (.iconst 4, 1) := by decide +kernel
theorem dX8_least_187 : decode cX8_least 187 = .ok (.if_icmp .ge 23, 3) := by decide +kernel
theorem dX8_least_190 : decode cX8_least 190 = .ok (.aload_n 0, 1) := by decide +kernel
theorem dX8_least_191 : decode cX8_least 191 = .ok (.getfield 39, 3) := by decide +kernel
theorem dX8_least_194 : decode cX8_least 194 = .ok (.iload 6, 2) := by decide +kernel
theorem dX8_least_196 : decode cX8_least 196 = .ok (.aload_n 0, 1) := by decide +kernel
theorem dX8_least_197 : decode cX8_least 197 = .ok (.getfield 36, 3) := by decide +kernel
theorem dX8_least_200 : decode cX8_least 200 = .ok (.iload 6, 2) := by decide +kernel
theorem dX8_least_202 : decode cX8_least 202 = .ok (.iaload, 1) := by decide +kernel
theorem dX8_least_203 : decode cX8_least 203 = .ok (.iastore, 1) := by decide +kernel
theorem dX8_least_204 : decode cX8_least 204 = .ok (.iinc 6 1, 3) := by decide +kernel
theorem dX8_least_207 : decode cX8_least 207 = .ok (.goto (-23), 3) := by decide +kernel
theorem dX8_least_210 : decode cX8_least 210 = .ok (.iinc 4 1, 3) := by decide +kernel
theorem dX8_least_213 : decode cX8_least 213 = .ok (.goto (-74), 3) := by decide +kernel
theorem dX8_least_216 : decode cX8_least 216 = .ok (.iload_n 3, 1) := by decide +kernel
theorem dX8_least_217 : decode cX8_least 217 = .ok (.ireturn, 1) := by decide +kernel
theorem dX8_hands_0 : decode cX8_hands 0 = .ok (.iconst 0, 1) := by decide +kernel
theorem dX8_hands_1 : decode cX8_hands 1 = .ok (.istore_n 3, 1) := by decide +kernel
theorem dX8_hands_2 : decode cX8_hands 2 = .ok (.iconst 0, 1) := by decide +kernel
theorem dX8_hands_3 : decode cX8_hands 3 = .ok (.istore 4, 2) := by decide +kernel
theorem dX8_hands_5 : decode cX8_hands 5 = .ok (.iload 4, 2) := by decide +kernel
theorem dX8_hands_7 : decode cX8_hands 7 = .ok (.aload_n 0, 1) := by decide +kernel
theorem dX8_hands_8 : decode cX8_hands 8 = .ok (.getfield 7, 3) := by decide +kernel
theorem dX8_hands_11 : decode cX8_hands 11 = .ok (.iconst 0, 1) := by decide +kernel
theorem dX8_hands_12 : decode cX8_hands 12 = .ok (.iaload, 1) := by decide +kernel
theorem dX8_hands_13 : decode cX8_hands 13 = .ok (.if_icmp .ge 30, 3) := by decide +kernel
theorem dX8_hands_16 : decode cX8_hands 16 = .ok (.iload_n 3, 1) := by decide +kernel
theorem dX8_hands_17 : decode cX8_hands 17 = .ok (.aload_n 0, 1) := by decide +kernel
theorem dX8_hands_18 : decode cX8_hands 18 = .ok (.iload_n 1, 1) := by decide +kernel
theorem dX8_hands_19 : decode cX8_hands 19 = .ok (.iload 4, 2) := by decide +kernel
theorem dX8_hands_21 : decode cX8_hands 21 = .ok (.invokevirtual 79, 3) := by decide +kernel
theorem dX8_hands_24 : decode cX8_hands 24 = .ok (.ifCond .ne 7, 3) := by decide +kernel
theorem dX8_hands_27 : decode cX8_hands 27 = .ok (.iconst 0, 1) := by decide +kernel
theorem dX8_hands_28 : decode cX8_hands 28 = .ok (.goto 7, 3) := by decide +kernel
theorem dX8_hands_31 : decode cX8_hands 31 = .ok (.iconst 1, 1) := by decide +kernel
theorem dX8_hands_32 : decode cX8_hands 32 = .ok (.iload 4, 2) := by decide +kernel
theorem dX8_hands_34 : decode cX8_hands 34 = .ok (.ishl, 1) := by decide +kernel
theorem dX8_hands_35 : decode cX8_hands 35 = .ok (.ior, 1) := by decide +kernel
theorem dX8_hands_36 : decode cX8_hands 36 = .ok (.istore_n 3, 1) := by decide +kernel
theorem dX8_hands_37 : decode cX8_hands 37 = .ok (.iinc 4 1, 3) := by decide +kernel
theorem dX8_hands_40 : decode cX8_hands 40 = .ok (.goto (-35), 3) := by decide +kernel
theorem dX8_hands_43 : decode cX8_hands 43 = .ok (.aload_n 0, 1) := by decide +kernel
theorem dX8_hands_44 : decode cX8_hands 44 = .ok (.getfield 7, 3) := by decide +kernel
theorem dX8_hands_47 : decode cX8_hands 47 = .ok (.iconst 2, 1) := by decide +kernel
theorem dX8_hands_48 : decode cX8_hands 48 = .ok (.iaload, 1) := by decide +kernel
theorem dX8_hands_49 : decode cX8_hands 49 = .ok (.iconst 1, 1) := by decide +kernel
theorem dX8_hands_50 : decode cX8_hands 50 = .ok (.isub, 1) := by decide +kernel
theorem dX8_hands_51 : decode cX8_hands 51 = .ok (.istore 4, 2) := by decide +kernel
theorem dX8_hands_53 : decode cX8_hands 53 = .ok (.iload 4, 2) := by decide +kernel
theorem dX8_hands_55 : decode cX8_hands 55 = .ok (.ifCond .lt 118, 3) := by decide +kernel
theorem dX8_hands_58 : decode cX8_hands 58 = .ok (.aload_n 0, 1) := by decide +kernel
theorem dX8_hands_59 : decode cX8_hands 59 = .ok (.iload 4, 2) := by decide +kernel
theorem dX8_hands_61 : decode cX8_hands 61 = .ok (.iconst 0, 1) := by decide +kernel
theorem dX8_hands_62 : decode cX8_hands 62 = .ok (.invokevirtual 76, 3) := by decide +kernel
theorem dX8_hands_65 : decode cX8_hands 65 = .ok (.iload_n 1, 1) := by decide +kernel
theorem dX8_hands_66 : decode cX8_hands 66 = .ok (.if_icmp .eq 17, 3) := by decide +kernel
theorem dX8_hands_69 : decode cX8_hands 69 = .ok (.aload_n 0, 1) := by decide +kernel
theorem dX8_hands_70 : decode cX8_hands 70 = .ok (.iload 4, 2) := by decide +kernel
theorem dX8_hands_72 : decode cX8_hands 72 = .ok (.iconst 1, 1) := by decide +kernel
theorem dX8_hands_73 : decode cX8_hands 73 = .ok (.invokevirtual 76, 3) := by decide +kernel
theorem dX8_hands_76 : decode cX8_hands 76 = .ok (.iload_n 1, 1) := by decide +kernel
theorem dX8_hands_77 : decode cX8_hands 77 = .ok (.if_icmp .eq 6, 3) := by decide +kernel
theorem dX8_hands_80 : decode cX8_hands 80 = .ok (.goto 87, 3) := by decide +kernel
theorem dX8_hands_83 : decode cX8_hands 83 = .ok (.iload_n 2, 1) := by decide +kernel
theorem dX8_hands_84 : decode cX8_hands 84 = .ok (.ifCond .eq 17, 3) := by decide +kernel
theorem dX8_hands_87 : decode cX8_hands 87 = .ok (.iload_n 3, 1) := by decide +kernel
theorem dX8_hands_88 : decode cX8_hands 88 = .ok (.aload_n 0, 1) := by decide +kernel
theorem dX8_hands_89 : decode cX8_hands 89 = .ok (.iload 4, 2) := by decide +kernel
theorem dX8_hands_91 : decode cX8_hands 91 = .ok (.iconst 2, 1) := by decide +kernel
theorem dX8_hands_92 : decode cX8_hands 92 = .ok (.invokevirtual 76, 3) := by decide +kernel
theorem dX8_hands_95 : decode cX8_hands 95 = .ok (.ishr, 1) := by decide +kernel
theorem dX8_hands_96 : decode cX8_hands 96 = .ok (.iconst 1, 1) := by decide +kernel
theorem dX8_hands_97 : decode cX8_hands 97 = .ok (.iand, 1) := by decide +kernel
theorem dX8_hands_98 : decode cX8_hands 98 = .ok (.ifCond .ne 12, 3) := by decide +kernel
theorem dX8_hands_101 : decode cX8_hands 101 = .ok (.aload_n 0, 1) := by decide +kernel
theorem dX8_hands_102 : decode cX8_hands 102 = .ok (.iload 4, 2) := by decide +kernel
theorem dX8_hands_104 : decode cX8_hands 104 = .ok (.invokevirtual 124, 3) := by decide +kernel
theorem dX8_hands_107 : decode cX8_hands 107 = .ok (.goto 60, 3) := by decide +kernel
theorem dX8_hands_110 : decode cX8_hands 110 = .ok (.aload_n 0, 1) := by decide +kernel
theorem dX8_hands_111 : decode cX8_hands 111 = .ok (.iload 4, 2) := by decide +kernel
theorem dX8_hands_113 : decode cX8_hands 113 = .ok (.aload_n 0, 1) := by decide +kernel
theorem dX8_hands_114 : decode cX8_hands 114 = .ok (.iload 4, 2) := by decide +kernel
theorem dX8_hands_116 : decode cX8_hands 116 = .ok (.iconst 0, 1) := by decide +kernel
theorem dX8_hands_117 : decode cX8_hands 117 = .ok (.invokevirtual 76, 3) := by decide +kernel
theorem dX8_hands_120 : decode cX8_hands 120 = .ok (.iload_n 1, 1) := by decide +kernel
theorem dX8_hands_121 : decode cX8_hands 121 = .ok (.if_icmp .ne 7, 3) := by decide +kernel
theorem dX8_hands_124 : decode cX8_hands 124 = .ok (.iconst 0, 1) := by decide +kernel
theorem dX8_hands_125 : decode cX8_hands 125 = .ok (.goto 4, 3) := by decide +kernel
theorem dX8_hands_128 : decode cX8_hands 128 = .ok (.iconst 1, 1) := by decide +kernel
theorem dX8_hands_129 : decode cX8_hands 129 = .ok (.aload_n 0, 1) := by decide +kernel
theorem dX8_hands_130 : decode cX8_hands 130 = .ok (.getfield 39, 3) := by decide +kernel
theorem dX8_hands_133 : decode cX8_hands 133 = .ok (.aload_n 0, 1) := by decide +kernel
theorem dX8_hands_134 : decode cX8_hands 134 = .ok (.iload 4, 2) := by decide +kernel
theorem dX8_hands_136 : decode cX8_hands 136 = .ok (.iconst 2, 1) := by decide +kernel
theorem dX8_hands_137 : decode cX8_hands 137 = .ok (.invokevirtual 76, 3) := by decide +kernel
theorem dX8_hands_140 : decode cX8_hands 140 = .ok (.iaload, 1) := by decide +kernel
theorem dX8_hands_141 : decode cX8_hands 141 = .ok (.invokevirtual 101, 3) := by decide +kernel
theorem dX8_hands_144 : decode cX8_hands 144 = .ok (.aload_n 0, 1) := by decide +kernel
theorem dX8_hands_145 : decode cX8_hands 145 = .ok (.iload 4, 2) := by decide +kernel
theorem dX8_hands_147 : decode cX8_hands 147 = .ok (.iconst 0, 1) := by decide +kernel
theorem dX8_hands_148 : decode cX8_hands 148 = .ok (.invokevirtual 76, 3) := by decide +kernel
theorem dX8_hands_151 : decode cX8_hands 151 = .ok (.aload_n 0, 1) := by decide +kernel
theorem dX8_hands_152 : decode cX8_hands 152 = .ok (.iload 4, 2) := by decide +kernel
theorem dX8_hands_154 : decode cX8_hands 154 = .ok (.iconst 1, 1) := by decide +kernel
theorem dX8_hands_155 : decode cX8_hands 155 = .ok (.invokevirtual 76, 3) := by decide +kernel
theorem dX8_hands_158 : decode cX8_hands 158 = .ok (.if_icmp .ne 9, 3) := by decide +kernel
theorem dX8_hands_161 : decode cX8_hands 161 = .ok (.aload_n 0, 1) := by decide +kernel
theorem dX8_hands_162 : decode cX8_hands 162 = .ok (.iload 4, 2) := by decide +kernel
theorem dX8_hands_164 : decode cX8_hands 164 = .ok (.invokevirtual 124, 3) := by decide +kernel
theorem dX8_hands_167 : decode cX8_hands 167 = .ok (.iinc 4 (-1), 3) := by decide +kernel
theorem dX8_hands_170 : decode cX8_hands 170 = .ok (.goto (-117), 3) := by decide +kernel
theorem dX8_hands_173 : decode cX8_hands 173 = .ok (.return_, 1) := by decide +kernel
theorem dX8_defaults_0 : decode cX8_defaults 0 = .ok (.aload_n 0, 1) := by decide +kernel
theorem dX8_defaults_1 : decode cX8_defaults 1 = .ok (.iload_n 1, 1) := by decide +kernel
theorem dX8_defaults_2 : decode cX8_defaults 2 = .ok (.invokevirtual 144, 3) := by decide +kernel
theorem dX8_defaults_5 : decode cX8_defaults 5 = .ok (.istore_n 2, 1) := by decide +kernel
theorem dX8_defaults_6 : decode cX8_defaults 6 = .ok (.aload_n 0, 1) := by decide +kernel
theorem dX8_defaults_7 : decode cX8_defaults 7 = .ok (.iload_n 1, 1) := by decide +kernel
theorem dX8_defaults_8 : decode cX8_defaults 8 = .ok (.iload_n 2, 1) := by decide +kernel
theorem dX8_defaults_9 : decode cX8_defaults 9 = .ok (.ifCond .lt 7, 3) := by decide +kernel
theorem dX8_defaults_12 : decode cX8_defaults 12 = .ok (.iconst 1, 1) := by decide +kernel
theorem dX8_defaults_13 : decode cX8_defaults 13 = .ok (.goto 4, 3) := by decide +kernel
theorem dX8_defaults_16 : decode cX8_defaults 16 = .ok (.iconst 0, 1) := by decide +kernel
theorem dX8_defaults_17 : decode cX8_defaults 17 = .ok (.invokevirtual 147, 3) := by decide +kernel
theorem dX8_defaults_20 : decode cX8_defaults 20 = .ok (.aload_n 0, 1) := by decide +kernel
theorem dX8_defaults_21 : decode cX8_defaults 21 = .ok (.iload_n 1, 1) := by decide +kernel
theorem dX8_defaults_22 : decode cX8_defaults 22 = .ok (.iconst 0, 1) := by decide +kernel
theorem dX8_defaults_23 : decode cX8_defaults 23 = .ok (.invokevirtual 72, 3) := by decide +kernel
theorem dX8_defaults_26 : decode cX8_defaults 26 = .ok (.istore_n 3, 1) := by decide +kernel
theorem dX8_defaults_27 : decode cX8_defaults 27 = .ok (.iload_n 3, 1) := by decide +kernel
theorem dX8_defaults_28 : decode cX8_defaults 28 = .ok (.ifCond .ge 12, 3) := by decide +kernel
theorem dX8_defaults_31 : decode cX8_defaults 31 = .ok (.aload_n 0, 1) := by decide +kernel
theorem dX8_defaults_32 : decode cX8_defaults 32 = .ok (.getfield 7, 3) := by decide +kernel
theorem dX8_defaults_35 : decode cX8_defaults 35 = .ok (.iconst 4, 1) := by decide +kernel
theorem dX8_defaults_36 : decode cX8_defaults 36 = .ok (.iaload, 1) := by decide +kernel
theorem dX8_defaults_37 : decode cX8_defaults 37 = .ok (.ifCond .ne 7, 3) := by decide +kernel
theorem dX8_defaults_40 : decode cX8_defaults 40 = .ok (.iconst 0, 1) := by decide +kernel
theorem dX8_defaults_41 : decode cX8_defaults 41 = .ok (.goto 25, 3) := by decide +kernel
theorem dX8_defaults_44 : decode cX8_defaults 44 = .ok (.iload_n 3, 1) := by decide +kernel
theorem dX8_defaults_45 : decode cX8_defaults 45 = .ok (.ineg, 1) := by decide +kernel
theorem dX8_defaults_46 : decode cX8_defaults 46 = .ok (.aload_n 0, 1) := by decide +kernel
theorem dX8_defaults_47 : decode cX8_defaults 47 = .ok (.getfield 7, 3) := by decide +kernel
theorem dX8_defaults_50 : decode cX8_defaults 50 = .ok (.iconst 4, 1) := by decide +kernel
theorem dX8_defaults_51 : decode cX8_defaults 51 = .ok (.iaload, 1) := by decide +kernel
theorem dX8_defaults_52 : decode cX8_defaults 52 = .ok (.if_icmp .ge 8, 3) := by decide +kernel
theorem dX8_defaults_55 : decode cX8_defaults 55 = .ok (.iload_n 3, 1) := by decide +kernel
theorem dX8_defaults_56 : decode cX8_defaults 56 = .ok (.ineg, 1) := by decide +kernel
theorem dX8_defaults_57 : decode cX8_defaults 57 = .ok (.goto 9, 3) := by decide +kernel
theorem dX8_defaults_60 : decode cX8_defaults 60 = .ok (.aload_n 0, 1) := by decide +kernel
theorem dX8_defaults_61 : decode cX8_defaults 61 = .ok (.getfield 7, 3) := by decide +kernel
theorem dX8_defaults_64 : decode cX8_defaults 64 = .ok (.iconst 4, 1) := by decide +kernel
theorem dX8_defaults_65 : decode cX8_defaults 65 = .ok (.iaload, 1) := by decide +kernel
theorem dX8_defaults_66 : decode cX8_defaults 66 = .ok (.istore 4, 2) := by decide +kernel
theorem dX8_defaults_68 : decode cX8_defaults 68 = .ok (.iload_n 3, 1) := by decide +kernel
theorem dX8_defaults_69 : decode cX8_defaults 69 = .ok (.ifCond .lt 16, 3) := by decide +kernel
theorem dX8_defaults_72 : decode cX8_defaults 72 = .ok (.aload_n 0, 1) := by decide +kernel
theorem dX8_defaults_73 : decode cX8_defaults 73 = .ok (.getfield 7, 3) := by decide +kernel
theorem dX8_defaults_76 : decode cX8_defaults 76 = .ok (.iconst 4, 1) := by decide +kernel
theorem dX8_defaults_77 : decode cX8_defaults 77 = .ok (.dup2, 1) := by decide +kernel
theorem dX8_defaults_78 : decode cX8_defaults 78 = .ok (.iaload, 1) := by decide +kernel
theorem dX8_defaults_79 : decode cX8_defaults 79 = .ok (.iload_n 3, 1) := by decide +kernel
theorem dX8_defaults_80 : decode cX8_defaults 80 = .ok (.iadd, 1) := by decide +kernel
theorem dX8_defaults_81 : decode cX8_defaults 81 = .ok (.iastore, 1) := by decide +kernel
theorem dX8_defaults_82 : decode cX8_defaults 82 = .ok (.goto 28, 3) := by decide +kernel
theorem dX8_defaults_85 : decode cX8_defaults 85 = .ok (.aload_n 0, 1) := by decide +kernel
theorem dX8_defaults_86 : decode cX8_defaults 86 = .ok (.getfield 7, 3) := by decide +kernel
theorem dX8_defaults_89 : decode cX8_defaults 89 = .ok (.iconst 4, 1) := by decide +kernel
theorem dX8_defaults_90 : decode cX8_defaults 90 = .ok (.dup2, 1) := by decide +kernel
theorem dX8_defaults_91 : decode cX8_defaults 91 = .ok (.iaload, 1) := by decide +kernel
theorem dX8_defaults_92 : decode cX8_defaults 92 = .ok (.iload 4, 2) := by decide +kernel
theorem dX8_defaults_94 : decode cX8_defaults 94 = .ok (.isub, 1) := by decide +kernel
theorem dX8_defaults_95 : decode cX8_defaults 95 = .ok (.iastore, 1) := by decide +kernel
theorem dX8_defaults_96 : decode cX8_defaults 96 = .ok (.aload_n 0, 1) := by decide +kernel
theorem dX8_defaults_97 : decode cX8_defaults 97 = .ok (.getfield 7, 3) := by decide +kernel
theorem dX8_defaults_100 : decode cX8_defaults 100 = .ok (.iconst 5, 1) := by decide +kernel
theorem dX8_defaults_101 : decode cX8_defaults 101 = .ok (.dup2, 1) := by decide +kernel
theorem dX8_defaults_102 : decode cX8_defaults 102 = .ok (.iaload, 1) := by decide +kernel
theorem dX8_defaults_103 : decode cX8_defaults 103 = .ok (.iload_n 3, 1) := by decide +kernel
theorem dX8_defaults_104 : decode cX8_defaults 104 = .ok (.ineg, 1) := by decide +kernel
theorem dX8_defaults_105 : decode cX8_defaults 105 = .ok (.iload 4, 2) := by decide +kernel
theorem dX8_defaults_107 : decode cX8_defaults 107 = .ok (.isub, 1) := by decide +kernel
theorem dX8_defaults_108 : decode cX8_defaults 108 = .ok (.iadd, 1) := by decide +kernel
theorem dX8_defaults_109 : decode cX8_defaults 109 = .ok (.iastore, 1) := by decide +kernel
theorem dX8_defaults_110 : decode cX8_defaults 110 = .ok (.aload_n 0, 1) := by decide +kernel
theorem dX8_defaults_111 : decode cX8_defaults 111 = .ok (.iload_n 1, 1) := by decide +kernel
theorem dX8_defaults_112 : decode cX8_defaults 112 = .ok (.iconst 0, 1) := by decide +kernel
theorem dX8_defaults_113 : decode cX8_defaults 113 = .ok (.iconst 0, 1) := by decide +kernel
theorem dX8_defaults_114 : decode cX8_defaults 114 = .ok (.invokevirtual 97, 3) := by decide +kernel
theorem dX8_defaults_117 : decode cX8_defaults 117 = .ok (.aload_n 0, 1) := by decide +kernel
theorem dX8_defaults_118 : decode cX8_defaults 118 = .ok (.iload_n 1, 1) := by decide +kernel
theorem dX8_defaults_119 : decode cX8_defaults 119 = .ok (.iconst 1, 1) := by decide +kernel
theorem dX8_defaults_120 : decode cX8_defaults 120 = .ok (.iconst 0, 1) := by decide +kernel
theorem dX8_defaults_121 : decode cX8_defaults 121 = .ok (.invokevirtual 97, 3) := by decide +kernel
theorem dX8_defaults_124 : decode cX8_defaults 124 = .ok (.aload_n 0, 1) := by decide +kernel
theorem dX8_defaults_125 : decode cX8_defaults 125 = .ok (.iload_n 1, 1) := by decide +kernel
theorem dX8_defaults_126 : decode cX8_defaults 126 = .ok (.iconst 2, 1) := by decide +kernel
theorem dX8_defaults_127 : decode cX8_defaults 127 = .ok (.iconst 1, 1) := by decide +kernel
theorem dX8_defaults_128 : decode cX8_defaults 128 = .ok (.invokevirtual 97, 3) := by decide +kernel
theorem dX8_defaults_131 : decode cX8_defaults 131 = .ok (.return_, 1) := by decide +kernel
theorem dX8_dawn_0 : decode cX8_dawn 0 = .ok (.aload_n 0, 1) := by decide +kernel
theorem dX8_dawn_1 : decode cX8_dawn 1 = .ok (.aload_n 0, 1) := by decide +kernel
theorem dX8_dawn_2 : decode cX8_dawn 2 = .ok (.getfield 7, 3) := by decide +kernel
theorem dX8_dawn_5 : decode cX8_dawn 5 = .ok (.invokevirtual 93, 3) := by decide +kernel
theorem dX8_dawn_8 : decode cX8_dawn 8 = .ok (.iconst 0, 1) := by decide +kernel
theorem dX8_dawn_9 : decode cX8_dawn 9 = .ok (.istore_n 1, 1) := by decide +kernel
theorem dX8_dawn_10 : decode cX8_dawn 10 = .ok (.iload_n 1, 1) := by decide +kernel
theorem dX8_dawn_11 : decode cX8_dawn 11 = .ok (.aload_n 0, 1) := by decide +kernel
theorem dX8_dawn_12 : decode cX8_dawn 12 = .ok (.getfield 7, 3) := by decide +kernel
theorem dX8_dawn_15 : decode cX8_dawn 15 = .ok (.iconst 1, 1) := by decide +kernel
theorem dX8_dawn_16 : decode cX8_dawn 16 = .ok (.iaload, 1) := by decide +kernel
theorem dX8_dawn_17 : decode cX8_dawn 17 = .ok (.if_icmp .ge 20, 3) := by decide +kernel
theorem dX8_dawn_20 : decode cX8_dawn 20 = .ok (.aload_n 0, 1) := by decide +kernel
theorem dX8_dawn_21 : decode cX8_dawn 21 = .ok (.getfield 42, 3) := by decide +kernel
theorem dX8_dawn_24 : decode cX8_dawn 24 = .ok (.iload_n 1, 1) := by decide +kernel
theorem dX8_dawn_25 : decode cX8_dawn 25 = .ok (.aload_n 0, 1) := by decide +kernel
theorem dX8_dawn_26 : decode cX8_dawn 26 = .ok (.iload_n 1, 1) := by decide +kernel
theorem dX8_dawn_27 : decode cX8_dawn 27 = .ok (.invokevirtual 151, 3) := by decide +kernel
theorem dX8_dawn_30 : decode cX8_dawn 30 = .ok (.iastore, 1) := by decide +kernel
theorem dX8_dawn_31 : decode cX8_dawn 31 = .ok (.iinc 1 1, 3) := by decide +kernel
theorem dX8_dawn_34 : decode cX8_dawn 34 = .ok (.goto (-24), 3) := by decide +kernel
theorem dX8_dawn_37 : decode cX8_dawn 37 = .ok (.iconst 0, 1) := by decide +kernel
theorem dX8_dawn_38 : decode cX8_dawn 38 = .ok (.istore_n 1, 1) := by decide +kernel
theorem dX8_dawn_39 : decode cX8_dawn 39 = .ok (.iload_n 1, 1) := by decide +kernel
theorem dX8_dawn_40 : decode cX8_dawn 40 = .ok (.aload_n 0, 1) := by decide +kernel
theorem dX8_dawn_41 : decode cX8_dawn 41 = .ok (.getfield 7, 3) := by decide +kernel
theorem dX8_dawn_44 : decode cX8_dawn 44 = .ok (.iconst 1, 1) := by decide +kernel
theorem dX8_dawn_45 : decode cX8_dawn 45 = .ok (.iaload, 1) := by decide +kernel
theorem dX8_dawn_46 : decode cX8_dawn 46 = .ok (.if_icmp .ge 28, 3) := by decide +kernel
theorem dX8_dawn_49 : decode cX8_dawn 49 = .ok (.aload_n 0, 1) := by decide +kernel
theorem dX8_dawn_50 : decode cX8_dawn 50 = .ok (.iload_n 1, 1) := by decide +kernel
theorem dX8_dawn_51 : decode cX8_dawn 51 = .ok (.iconst 0, 1) := by decide +kernel
theorem dX8_dawn_52 : decode cX8_dawn 52 = .ok (.aload_n 0, 1) := by decide +kernel
theorem dX8_dawn_53 : decode cX8_dawn 53 = .ok (.iload_n 1, 1) := by decide +kernel
theorem dX8_dawn_54 : decode cX8_dawn 54 = .ok (.iconst 0, 1) := by decide +kernel
theorem dX8_dawn_55 : decode cX8_dawn 55 = .ok (.invokevirtual 72, 3) := by decide +kernel
theorem dX8_dawn_58 : decode cX8_dawn 58 = .ok (.aload_n 0, 1) := by decide +kernel
theorem dX8_dawn_59 : decode cX8_dawn 59 = .ok (.getfield 42, 3) := by decide +kernel
theorem dX8_dawn_62 : decode cX8_dawn 62 = .ok (.iload_n 1, 1) := by decide +kernel
theorem dX8_dawn_63 : decode cX8_dawn 63 = .ok (.iaload, 1) := by decide +kernel
theorem dX8_dawn_64 : decode cX8_dawn 64 = .ok (.iadd, 1) := by decide +kernel
theorem dX8_dawn_65 : decode cX8_dawn 65 = .ok (.invokevirtual 97, 3) := by decide +kernel
theorem dX8_dawn_68 : decode cX8_dawn 68 = .ok (.iinc 1 1, 3) := by decide +kernel
theorem dX8_dawn_71 : decode cX8_dawn 71 = .ok (.goto (-32), 3) := by decide +kernel
theorem dX8_dawn_74 : decode cX8_dawn 74 = .ok (.iconst 0, 1) := by decide +kernel
theorem dX8_dawn_75 : decode cX8_dawn 75 = .ok (.istore_n 1, 1) := by decide +kernel
theorem dX8_dawn_76 : decode cX8_dawn 76 = .ok (.iload_n 1, 1) := by decide +kernel
theorem dX8_dawn_77 : decode cX8_dawn 77 = .ok (.aload_n 0, 1) := by decide +kernel
theorem dX8_dawn_78 : decode cX8_dawn 78 = .ok (.getfield 7, 3) := by decide +kernel
theorem dX8_dawn_81 : decode cX8_dawn 81 = .ok (.iconst 0, 1) := by decide +kernel
theorem dX8_dawn_82 : decode cX8_dawn 82 = .ok (.iaload, 1) := by decide +kernel
theorem dX8_dawn_83 : decode cX8_dawn 83 = .ok (.if_icmp .ge 28, 3) := by decide +kernel
theorem dX8_dawn_86 : decode cX8_dawn 86 = .ok (.aload_n 0, 1) := by decide +kernel
theorem dX8_dawn_87 : decode cX8_dawn 87 = .ok (.getfield 7, 3) := by decide +kernel
theorem dX8_dawn_90 : decode cX8_dawn 90 = .ok (.bipush 6, 2) := by decide +kernel
theorem dX8_dawn_92 : decode cX8_dawn 92 = .ok (.iconst 3, 1) := by decide +kernel
theorem dX8_dawn_93 : decode cX8_dawn 93 = .ok (.iload_n 1, 1) := by decide +kernel
theorem dX8_dawn_94 : decode cX8_dawn 94 = .ok (.imul, 1) := by decide +kernel
theorem dX8_dawn_95 : decode cX8_dawn 95 = .ok (.iadd, 1) := by decide +kernel
theorem dX8_dawn_96 : decode cX8_dawn 96 = .ok (.iconst 0, 1) := by decide +kernel
theorem dX8_dawn_97 : decode cX8_dawn 97 = .ok (.iadd, 1) := by decide +kernel
theorem dX8_dawn_98 : decode cX8_dawn 98 = .ok (.aload_n 0, 1) := by decide +kernel
theorem dX8_dawn_99 : decode cX8_dawn 99 = .ok (.iload_n 1, 1) := by decide +kernel
theorem dX8_dawn_100 : decode cX8_dawn 100 = .ok (.iconst 1, 1) := by decide +kernel
theorem dX8_dawn_101 : decode cX8_dawn 101 = .ok (.invokevirtual 86, 3) := by decide +kernel
theorem dX8_dawn_104 : decode cX8_dawn 104 = .ok (.iastore, 1) := by decide +kernel
theorem dX8_dawn_105 : decode cX8_dawn 105 = .ok (.iinc 1 1, 3) := by decide +kernel
theorem dX8_dawn_108 : decode cX8_dawn 108 = .ok (.goto (-32), 3) := by decide +kernel
theorem dX8_dawn_111 : decode cX8_dawn 111 = .ok (.aload_n 0, 1) := by decide +kernel
theorem dX8_dawn_112 : decode cX8_dawn 112 = .ok (.getfield 7, 3) := by decide +kernel
theorem dX8_dawn_115 : decode cX8_dawn 115 = .ok (.iconst 3, 1) := by decide +kernel
theorem dX8_dawn_116 : decode cX8_dawn 116 = .ok (.dup2, 1) := by decide +kernel
theorem dX8_dawn_117 : decode cX8_dawn 117 = .ok (.iaload, 1) := by decide +kernel
theorem dX8_dawn_118 : decode cX8_dawn 118 = .ok (.iconst 1, 1) := by decide +kernel
theorem dX8_dawn_119 : decode cX8_dawn 119 = .ok (.iadd, 1) := by decide +kernel
theorem dX8_dawn_120 : decode cX8_dawn 120 = .ok (.iastore, 1) := by decide +kernel
theorem dX8_dawn_121 : decode cX8_dawn 121 = .ok (.aload_n 0, 1) := by decide +kernel
theorem dX8_dawn_122 : decode cX8_dawn 122 = .ok (.getfield 7, 3) := by decide +kernel
theorem dX8_dawn_125 : decode cX8_dawn 125 = .ok (.iconst 2, 1) := by decide +kernel
theorem dX8_dawn_126 : decode cX8_dawn 126 = .ok (.iaload, 1) := by decide +kernel
theorem dX8_dawn_127 : decode cX8_dawn 127 = .ok (.iconst 1, 1) := by decide +kernel
theorem dX8_dawn_128 : decode cX8_dawn 128 = .ok (.isub, 1) := by decide +kernel
theorem dX8_dawn_129 : decode cX8_dawn 129 = .ok (.istore_n 1, 1) := by decide +kernel
theorem dX8_dawn_130 : decode cX8_dawn 130 = .ok (.iload_n 1, 1) := by decide +kernel
theorem dX8_dawn_131 : decode cX8_dawn 131 = .ok (.ifCond .lt 29, 3) := by decide +kernel
theorem dX8_dawn_134 : decode cX8_dawn 134 = .ok (.aload_n 0, 1) := by decide +kernel
theorem dX8_dawn_135 : decode cX8_dawn 135 = .ok (.iload_n 1, 1) := by decide +kernel
theorem dX8_dawn_136 : decode cX8_dawn 136 = .ok (.iconst 4, 1) := by decide +kernel
theorem dX8_dawn_137 : decode cX8_dawn 137 = .ok (.invokevirtual 76, 3) := by decide +kernel
theorem dX8_dawn_140 : decode cX8_dawn 140 = .ok (.aload_n 0, 1) := by decide +kernel
theorem dX8_dawn_141 : decode cX8_dawn 141 = .ok (.getfield 7, 3) := by decide +kernel
theorem dX8_dawn_144 : decode cX8_dawn 144 = .ok (.iconst 3, 1) := by decide +kernel
theorem dX8_dawn_145 : decode cX8_dawn 145 = .ok (.iaload, 1) := by decide +kernel
theorem dX8_dawn_146 : decode cX8_dawn 146 = .ok (.if_icmp .ne 8, 3) := by decide +kernel
theorem dX8_dawn_149 : decode cX8_dawn 149 = .ok (.aload_n 0, 1) := by decide +kernel
theorem dX8_dawn_150 : decode cX8_dawn 150 = .ok (.iload_n 1, 1) := by decide +kernel
theorem dX8_dawn_151 : decode cX8_dawn 151 = .ok (.invokevirtual 124, 3) := by decide +kernel
theorem dX8_dawn_154 : decode cX8_dawn 154 = .ok (.iinc 1 (-1), 3) := by decide +kernel
theorem dX8_dawn_157 : decode cX8_dawn 157 = .ok (.goto (-27), 3) := by decide +kernel
theorem dX8_dawn_160 : decode cX8_dawn 160 = .ok (.iconst 0, 1) := by decide +kernel
theorem dX8_dawn_161 : decode cX8_dawn 161 = .ok (.istore_n 1, 1) := by decide +kernel
theorem dX8_dawn_162 : decode cX8_dawn 162 = .ok (.iconst 0, 1) := by decide +kernel
theorem dX8_dawn_163 : decode cX8_dawn 163 = .ok (.istore_n 2, 1) := by decide +kernel
theorem dX8_dawn_164 : decode cX8_dawn 164 = .ok (.iload_n 2, 1) := by decide +kernel
theorem dX8_dawn_165 : decode cX8_dawn 165 = .ok (.aload_n 0, 1) := by decide +kernel
theorem dX8_dawn_166 : decode cX8_dawn 166 = .ok (.getfield 7, 3) := by decide +kernel
theorem dX8_dawn_169 : decode cX8_dawn 169 = .ok (.iconst 1, 1) := by decide +kernel
theorem dX8_dawn_170 : decode cX8_dawn 170 = .ok (.iaload, 1) := by decide +kernel
theorem dX8_dawn_171 : decode cX8_dawn 171 = .ok (.if_icmp .ge 64, 3) := by decide +kernel
theorem dX8_dawn_174 : decode cX8_dawn 174 = .ok (.aload_n 0, 1) := by decide +kernel
theorem dX8_dawn_175 : decode cX8_dawn 175 = .ok (.iload_n 2, 1) := by decide +kernel
theorem dX8_dawn_176 : decode cX8_dawn 176 = .ok (.iconst 2, 1) := by decide +kernel
theorem dX8_dawn_177 : decode cX8_dawn 177 = .ok (.invokevirtual 72, 3) := by decide +kernel
theorem dX8_dawn_180 : decode cX8_dawn 180 = .ok (.iconst 1, 1) := by decide +kernel
theorem dX8_dawn_181 : decode cX8_dawn 181 = .ok (.if_icmp .ne 6, 3) := by decide +kernel
theorem dX8_dawn_184 : decode cX8_dawn 184 = .ok (.goto 45, 3) := by decide +kernel
theorem dX8_dawn_187 : decode cX8_dawn 187 = .ok (.aload_n 0, 1) := by decide +kernel
theorem dX8_dawn_188 : decode cX8_dawn 188 = .ok (.iload_n 2, 1) := by decide +kernel
theorem dX8_dawn_189 : decode cX8_dawn 189 = .ok (.iconst 0, 1) := by decide +kernel
theorem dX8_dawn_190 : decode cX8_dawn 190 = .ok (.invokevirtual 120, 3) := by decide +kernel
theorem dX8_dawn_193 : decode cX8_dawn 193 = .ok (.istore_n 3, 1) := by decide +kernel
theorem dX8_dawn_194 : decode cX8_dawn 194 = .ok (.iload_n 3, 1) := by decide +kernel
theorem dX8_dawn_195 : decode cX8_dawn 195 = .ok (.ifCond .eq 19, 3) := by decide +kernel
theorem dX8_dawn_198 : decode cX8_dawn 198 = .ok (.aload_n 0, 1) := by decide +kernel
theorem dX8_dawn_199 : decode cX8_dawn 199 = .ok (.iload_n 2, 1) := by decide +kernel
theorem dX8_dawn_200 : decode cX8_dawn 200 = .ok (.iconst 1, 1) := by decide +kernel
theorem dX8_dawn_201 : decode cX8_dawn 201 = .ok (.invokevirtual 72, 3) := by decide +kernel
theorem dX8_dawn_204 : decode cX8_dawn 204 = .ok (.iconst 1, 1) := by decide +kernel
theorem dX8_dawn_205 : decode cX8_dawn 205 = .ok (.if_icmp .ne 9, 3) := by decide +kernel
theorem dX8_dawn_208 : decode cX8_dawn 208 = .ok (.iload_n 1, 1) := by decide +kernel
theorem dX8_dawn_209 : decode cX8_dawn 209 = .ok (.iconst 1, 1) := by decide +kernel
theorem dX8_dawn_210 : decode cX8_dawn 210 = .ok (.iload_n 2, 1) := by decide +kernel
theorem dX8_dawn_211 : decode cX8_dawn 211 = .ok (.ishl, 1) := by decide +kernel
theorem dX8_dawn_212 : decode cX8_dawn 212 = .ok (.ior, 1) := by decide +kernel
theorem dX8_dawn_213 : decode cX8_dawn 213 = .ok (.istore_n 1, 1) := by decide +kernel
theorem dX8_dawn_214 : decode cX8_dawn 214 = .ok (.aload_n 0, 1) := by decide +kernel
theorem dX8_dawn_215 : decode cX8_dawn 215 = .ok (.iload_n 2, 1) := by decide +kernel
theorem dX8_dawn_216 : decode cX8_dawn 216 = .ok (.iconst 1, 1) := by decide +kernel
theorem dX8_dawn_217 : decode cX8_dawn 217 = .ok (.iload_n 3, 1) := by decide +kernel
theorem dX8_dawn_218 : decode cX8_dawn 218 = .ok (.ifCond .eq 7, 3) := by decide +kernel
theorem dX8_dawn_221 : decode cX8_dawn 221 = .ok (.iconst 1, 1) := by decide +kernel
theorem dX8_dawn_222 : decode cX8_dawn 222 = .ok (.goto 4, 3) := by decide +kernel
theorem dX8_dawn_225 : decode cX8_dawn 225 = .ok (.iconst 0, 1) := by decide +kernel
theorem dX8_dawn_226 : decode cX8_dawn 226 = .ok (.invokevirtual 97, 3) := by decide +kernel
theorem dX8_dawn_229 : decode cX8_dawn 229 = .ok (.iinc 2 1, 3) := by decide +kernel
theorem dX8_dawn_232 : decode cX8_dawn 232 = .ok (.goto (-68), 3) := by decide +kernel
theorem dX8_dawn_235 : decode cX8_dawn 235 = .ok (.iconst 0, 1) := by decide +kernel
theorem dX8_dawn_236 : decode cX8_dawn 236 = .ok (.istore_n 2, 1) := by decide +kernel
theorem dX8_dawn_237 : decode cX8_dawn 237 = .ok (.iconst 0, 1) := by decide +kernel
theorem dX8_dawn_238 : decode cX8_dawn 238 = .ok (.istore_n 3, 1) := by decide +kernel
theorem dX8_dawn_239 : decode cX8_dawn 239 = .ok (.iload_n 3, 1) := by decide +kernel
theorem dX8_dawn_240 : decode cX8_dawn 240 = .ok (.aload_n 0, 1) := by decide +kernel
theorem dX8_dawn_241 : decode cX8_dawn 241 = .ok (.getfield 7, 3) := by decide +kernel
theorem dX8_dawn_244 : decode cX8_dawn 244 = .ok (.iconst 1, 1) := by decide +kernel
theorem dX8_dawn_245 : decode cX8_dawn 245 = .ok (.iaload, 1) := by decide +kernel
theorem dX8_dawn_246 : decode cX8_dawn 246 = .ok (.if_icmp .ge 28, 3) := by decide +kernel
theorem dX8_dawn_249 : decode cX8_dawn 249 = .ok (.iload_n 1, 1) := by decide +kernel
theorem dX8_dawn_250 : decode cX8_dawn 250 = .ok (.iload_n 3, 1) := by decide +kernel
theorem dX8_dawn_251 : decode cX8_dawn 251 = .ok (.ishr, 1) := by decide +kernel
theorem dX8_dawn_252 : decode cX8_dawn 252 = .ok (.iconst 1, 1) := by decide +kernel
theorem dX8_dawn_253 : decode cX8_dawn 253 = .ok (.iand, 1) := by decide +kernel
theorem dX8_dawn_254 : decode cX8_dawn 254 = .ok (.ifCond .ne 6, 3) := by decide +kernel
theorem dX8_dawn_257 : decode cX8_dawn 257 = .ok (.goto 11, 3) := by decide +kernel
theorem dX8_dawn_260 : decode cX8_dawn 260 = .ok (.aload_n 0, 1) := by decide +kernel
theorem dX8_dawn_261 : decode cX8_dawn 261 = .ok (.iload_n 3, 1) := by decide +kernel
theorem dX8_dawn_262 : decode cX8_dawn 262 = .ok (.invokevirtual 154, 3) := by decide +kernel
theorem dX8_dawn_265 : decode cX8_dawn 265 = .ok (.iinc 2 1, 3) := by decide +kernel
theorem dX8_dawn_268 : decode cX8_dawn 268 = .ok (.iinc 3 1, 3) := by decide +kernel
theorem dX8_dawn_271 : decode cX8_dawn 271 = .ok (.goto (-32), 3) := by decide +kernel
theorem dX8_dawn_274 : decode cX8_dawn 274 = .ok (.iload_n 2, 1) := by decide +kernel
theorem dX8_dawn_275 : decode cX8_dawn 275 = .ok (.ireturn, 1) := by decide +kernel
theorem dX8_isRefused_0 : decode cX8_isRefused 0 = .ok (.aload_n 0, 1) := by decide +kernel
theorem dX8_isRefused_1 : decode cX8_isRefused 1 = .ok (.aload_n 0, 1) := by decide +kernel
theorem dX8_isRefused_2 : decode cX8_isRefused 2 = .ok (.iload_n 1, 1) := by decide +kernel
theorem dX8_isRefused_3 : decode cX8_isRefused 3 = .ok (.invokevirtual 107, 3) := by decide +kernel
theorem dX8_isRefused_6 : decode cX8_isRefused 6 = .ok (.ifCond .ne 7, 3) := by decide +kernel
theorem dX8_isRefused_9 : decode cX8_isRefused 9 = .ok (.iconst 1, 1) := by decide +kernel
theorem dX8_isRefused_10 : decode cX8_isRefused 10 = .ok (.goto 33, 3) := by decide +kernel
theorem dX8_isRefused_13 : decode cX8_isRefused 13 = .ok (.iload_n 2, 1) := by decide +kernel
theorem dX8_isRefused_14 : decode cX8_isRefused 14 = .ok (.iconst 1, 1) := by decide +kernel
theorem dX8_isRefused_15 : decode cX8_isRefused 15 = .ok (.sipush 9999, 3) := by decide +kernel
theorem dX8_isRefused_18 : decode cX8_isRefused 18 = .ok (.invokestatic 68, 3) := by decide +kernel
theorem dX8_isRefused_21 : decode cX8_isRefused 21 = .ok (.ifCond .ne 7, 3) := by decide +kernel
theorem dX8_isRefused_24 : decode cX8_isRefused 24 = .ok (.iconst 2, 1) := by decide +kernel
theorem dX8_isRefused_25 : decode cX8_isRefused 25 = .ok (.goto 18, 3) := by decide +kernel
theorem dX8_isRefused_28 : decode cX8_isRefused 28 = .ok (.aload_n 0, 1) := by decide +kernel
theorem dX8_isRefused_29 : decode cX8_isRefused 29 = .ok (.iload_n 1, 1) := by decide +kernel
theorem dX8_isRefused_30 : decode cX8_isRefused 30 = .ok (.iconst 2, 1) := by decide +kernel
theorem dX8_isRefused_31 : decode cX8_isRefused 31 = .ok (.invokevirtual 72, 3) := by decide +kernel
theorem dX8_isRefused_34 : decode cX8_isRefused 34 = .ok (.iconst 1, 1) := by decide +kernel
theorem dX8_isRefused_35 : decode cX8_isRefused 35 = .ok (.if_icmp .ne 7, 3) := by decide +kernel
theorem dX8_isRefused_38 : decode cX8_isRefused 38 = .ok (.iconst 3, 1) := by decide +kernel
theorem dX8_isRefused_39 : decode cX8_isRefused 39 = .ok (.goto 4, 3) := by decide +kernel
theorem dX8_isRefused_42 : decode cX8_isRefused 42 = .ok (.iconst 0, 1) := by decide +kernel
theorem dX8_isRefused_43 : decode cX8_isRefused 43 = .ok (.invokevirtual 89, 3) := by decide +kernel
theorem dX8_isRefused_46 : decode cX8_isRefused 46 = .ok (.ireturn, 1) := by decide +kernel
theorem dX8_deposit_0 : decode cX8_deposit 0 = .ok (.aload_n 0, 1) := by decide +kernel
theorem dX8_deposit_1 : decode cX8_deposit 1 = .ok (.iload_n 1, 1) := by decide +kernel
theorem dX8_deposit_2 : decode cX8_deposit 2 = .ok (.iload_n 2, 1) := by decide +kernel
theorem dX8_deposit_3 : decode cX8_deposit 3 = .ok (.invokevirtual 157, 3) := by decide +kernel
theorem dX8_deposit_6 : decode cX8_deposit 6 = .ok (.ifCond .eq 5, 3) := by decide +kernel
theorem dX8_deposit_9 : decode cX8_deposit 9 = .ok (.iconst 0, 1) := by decide +kernel
theorem dX8_deposit_10 : decode cX8_deposit 10 = .ok (.ireturn, 1) := by decide +kernel
theorem dX8_deposit_11 : decode cX8_deposit 11 = .ok (.aload_n 0, 1) := by decide +kernel
theorem dX8_deposit_12 : decode cX8_deposit 12 = .ok (.aload_n 0, 1) := by decide +kernel
theorem dX8_deposit_13 : decode cX8_deposit 13 = .ok (.getfield 7, 3) := by decide +kernel
theorem dX8_deposit_16 : decode cX8_deposit 16 = .ok (.invokevirtual 93, 3) := by decide +kernel
theorem dX8_deposit_19 : decode cX8_deposit 19 = .ok (.aload_n 0, 1) := by decide +kernel
theorem dX8_deposit_20 : decode cX8_deposit 20 = .ok (.iload_n 1, 1) := by decide +kernel
theorem dX8_deposit_21 : decode cX8_deposit 21 = .ok (.iconst 0, 1) := by decide +kernel
theorem dX8_deposit_22 : decode cX8_deposit 22 = .ok (.aload_n 0, 1) := by decide +kernel
theorem dX8_deposit_23 : decode cX8_deposit 23 = .ok (.iload_n 1, 1) := by decide +kernel
theorem dX8_deposit_24 : decode cX8_deposit 24 = .ok (.iconst 0, 1) := by decide +kernel
theorem dX8_deposit_25 : decode cX8_deposit 25 = .ok (.invokevirtual 72, 3) := by decide +kernel
theorem dX8_deposit_28 : decode cX8_deposit 28 = .ok (.iload_n 2, 1) := by decide +kernel
theorem dX8_deposit_29 : decode cX8_deposit 29 = .ok (.iadd, 1) := by decide +kernel
theorem dX8_deposit_30 : decode cX8_deposit 30 = .ok (.invokevirtual 97, 3) := by decide +kernel
theorem dX8_deposit_33 : decode cX8_deposit 33 = .ok (.aload_n 0, 1) := by decide +kernel
theorem dX8_deposit_34 : decode cX8_deposit 34 = .ok (.getfield 7, 3) := by decide +kernel
theorem dX8_deposit_37 : decode cX8_deposit 37 = .ok (.sipush 136, 3) := by decide +kernel
theorem dX8_deposit_40 : decode cX8_deposit 40 = .ok (.dup2, 1) := by decide +kernel
theorem dX8_deposit_41 : decode cX8_deposit 41 = .ok (.iaload, 1) := by decide +kernel
theorem dX8_deposit_42 : decode cX8_deposit 42 = .ok (.iload_n 2, 1) := by decide +kernel
theorem dX8_deposit_43 : decode cX8_deposit 43 = .ok (.iadd, 1) := by decide +kernel
theorem dX8_deposit_44 : decode cX8_deposit 44 = .ok (.iastore, 1) := by decide +kernel
theorem dX8_deposit_45 : decode cX8_deposit 45 = .ok (.aload_n 0, 1) := by decide +kernel
theorem dX8_deposit_46 : decode cX8_deposit 46 = .ok (.iload_n 1, 1) := by decide +kernel
theorem dX8_deposit_47 : decode cX8_deposit 47 = .ok (.iconst 0, 1) := by decide +kernel
theorem dX8_deposit_48 : decode cX8_deposit 48 = .ok (.invokevirtual 72, 3) := by decide +kernel
theorem dX8_deposit_51 : decode cX8_deposit 51 = .ok (.ireturn, 1) := by decide +kernel
theorem dX8_withdraw_0 : decode cX8_withdraw 0 = .ok (.aload_n 0, 1) := by decide +kernel
theorem dX8_withdraw_1 : decode cX8_withdraw 1 = .ok (.iload_n 1, 1) := by decide +kernel
theorem dX8_withdraw_2 : decode cX8_withdraw 2 = .ok (.iload_n 2, 1) := by decide +kernel
theorem dX8_withdraw_3 : decode cX8_withdraw 3 = .ok (.invokevirtual 157, 3) := by decide +kernel
theorem dX8_withdraw_6 : decode cX8_withdraw 6 = .ok (.ifCond .ne 24, 3) := by decide +kernel
theorem dX8_withdraw_9 : decode cX8_withdraw 9 = .ok (.aload_n 0, 1) := by decide +kernel
theorem dX8_withdraw_10 : decode cX8_withdraw 10 = .ok (.aload_n 0, 1) := by decide +kernel
theorem dX8_withdraw_11 : decode cX8_withdraw 11 = .ok (.iload_n 1, 1) := by decide +kernel
theorem dX8_withdraw_12 : decode cX8_withdraw 12 = .ok (.iload_n 2, 1) := by decide +kernel
theorem dX8_withdraw_13 : decode cX8_withdraw 13 = .ok (.invokevirtual 120, 3) := by decide +kernel
theorem dX8_withdraw_16 : decode cX8_withdraw 16 = .ok (.ifCond .eq 7, 3) := by decide +kernel
theorem dX8_withdraw_19 : decode cX8_withdraw 19 = .ok (.iconst 4, 1) := by decide +kernel
theorem dX8_withdraw_20 : decode cX8_withdraw 20 = .ok (.goto 4, 3) := by decide +kernel
theorem dX8_withdraw_23 : decode cX8_withdraw 23 = .ok (.iconst 0, 1) := by decide +kernel
theorem dX8_withdraw_24 : decode cX8_withdraw 24 = .ok (.invokevirtual 89, 3) := by decide +kernel
theorem dX8_withdraw_27 : decode cX8_withdraw 27 = .ok (.ifCond .eq 5, 3) := by decide +kernel
theorem dX8_withdraw_30 : decode cX8_withdraw 30 = .ok (.iconst 0, 1) := by decide +kernel
theorem dX8_withdraw_31 : decode cX8_withdraw 31 = .ok (.ireturn, 1) := by decide +kernel
theorem dX8_withdraw_32 : decode cX8_withdraw 32 = .ok (.aload_n 0, 1) := by decide +kernel
theorem dX8_withdraw_33 : decode cX8_withdraw 33 = .ok (.aload_n 0, 1) := by decide +kernel
theorem dX8_withdraw_34 : decode cX8_withdraw 34 = .ok (.getfield 7, 3) := by decide +kernel
theorem dX8_withdraw_37 : decode cX8_withdraw 37 = .ok (.invokevirtual 93, 3) := by decide +kernel
theorem dX8_withdraw_40 : decode cX8_withdraw 40 = .ok (.aload_n 0, 1) := by decide +kernel
theorem dX8_withdraw_41 : decode cX8_withdraw 41 = .ok (.iload_n 1, 1) := by decide +kernel
theorem dX8_withdraw_42 : decode cX8_withdraw 42 = .ok (.iconst 0, 1) := by decide +kernel
theorem dX8_withdraw_43 : decode cX8_withdraw 43 = .ok (.aload_n 0, 1) := by decide +kernel
theorem dX8_withdraw_44 : decode cX8_withdraw 44 = .ok (.iload_n 1, 1) := by decide +kernel
theorem dX8_withdraw_45 : decode cX8_withdraw 45 = .ok (.iconst 0, 1) := by decide +kernel
theorem dX8_withdraw_46 : decode cX8_withdraw 46 = .ok (.invokevirtual 72, 3) := by decide +kernel
theorem dX8_withdraw_49 : decode cX8_withdraw 49 = .ok (.iload_n 2, 1) := by decide +kernel
theorem dX8_withdraw_50 : decode cX8_withdraw 50 = .ok (.isub, 1) := by decide +kernel
theorem dX8_withdraw_51 : decode cX8_withdraw 51 = .ok (.invokevirtual 97, 3) := by decide +kernel
theorem dX8_withdraw_54 : decode cX8_withdraw 54 = .ok (.aload_n 0, 1) := by decide +kernel
theorem dX8_withdraw_55 : decode cX8_withdraw 55 = .ok (.getfield 7, 3) := by decide +kernel
theorem dX8_withdraw_58 : decode cX8_withdraw 58 = .ok (.sipush 137, 3) := by decide +kernel
theorem dX8_withdraw_61 : decode cX8_withdraw 61 = .ok (.dup2, 1) := by decide +kernel
theorem dX8_withdraw_62 : decode cX8_withdraw 62 = .ok (.iaload, 1) := by decide +kernel
theorem dX8_withdraw_63 : decode cX8_withdraw 63 = .ok (.iload_n 2, 1) := by decide +kernel
theorem dX8_withdraw_64 : decode cX8_withdraw 64 = .ok (.iadd, 1) := by decide +kernel
theorem dX8_withdraw_65 : decode cX8_withdraw 65 = .ok (.iastore, 1) := by decide +kernel
theorem dX8_withdraw_66 : decode cX8_withdraw 66 = .ok (.aload_n 0, 1) := by decide +kernel
theorem dX8_withdraw_67 : decode cX8_withdraw 67 = .ok (.iload_n 1, 1) := by decide +kernel
theorem dX8_withdraw_68 : decode cX8_withdraw 68 = .ok (.iconst 0, 1) := by decide +kernel
theorem dX8_withdraw_69 : decode cX8_withdraw 69 = .ok (.invokevirtual 72, 3) := by decide +kernel
theorem dX8_withdraw_72 : decode cX8_withdraw 72 = .ok (.ireturn, 1) := by decide +kernel
theorem dX8_contribute_0 : decode cX8_contribute 0 = .ok (.aload_n 0, 1) := by decide +kernel
theorem dX8_contribute_1 : decode cX8_contribute 1 = .ok (.iload_n 1, 1) := by decide +kernel
theorem dX8_contribute_2 : decode cX8_contribute 2 = .ok (.iload_n 2, 1) := by decide +kernel
theorem dX8_contribute_3 : decode cX8_contribute 3 = .ok (.invokevirtual 157, 3) := by decide +kernel
theorem dX8_contribute_6 : decode cX8_contribute 6 = .ok (.ifCond .ne 24, 3) := by decide +kernel
theorem dX8_contribute_9 : decode cX8_contribute 9 = .ok (.aload_n 0, 1) := by decide +kernel
theorem dX8_contribute_10 : decode cX8_contribute 10 = .ok (.aload_n 0, 1) := by decide +kernel
theorem dX8_contribute_11 : decode cX8_contribute 11 = .ok (.iload_n 1, 1) := by decide +kernel
theorem dX8_contribute_12 : decode cX8_contribute 12 = .ok (.iload_n 2, 1) := by decide +kernel
theorem dX8_contribute_13 : decode cX8_contribute 13 = .ok (.invokevirtual 120, 3) := by decide +kernel
theorem dX8_contribute_16 : decode cX8_contribute 16 = .ok (.ifCond .eq 7, 3) := by decide +kernel
theorem dX8_contribute_19 : decode cX8_contribute 19 = .ok (.iconst 4, 1) := by decide +kernel
theorem dX8_contribute_20 : decode cX8_contribute 20 = .ok (.goto 4, 3) := by decide +kernel
theorem dX8_contribute_23 : decode cX8_contribute 23 = .ok (.iconst 0, 1) := by decide +kernel
theorem dX8_contribute_24 : decode cX8_contribute 24 = .ok (.invokevirtual 89, 3) := by decide +kernel
theorem dX8_contribute_27 : decode cX8_contribute 27 = .ok (.ifCond .eq 5, 3) := by decide +kernel
theorem dX8_contribute_30 : decode cX8_contribute 30 = .ok (.iconst 0, 1) := by decide +kernel
theorem dX8_contribute_31 : decode cX8_contribute 31 = .ok (.ireturn, 1) := by decide +kernel
theorem dX8_contribute_32 : decode cX8_contribute 32 = .ok (.aload_n 0, 1) := by decide +kernel
theorem dX8_contribute_33 : decode cX8_contribute 33 = .ok (.aload_n 0, 1) := by decide +kernel
theorem dX8_contribute_34 : decode cX8_contribute 34 = .ok (.getfield 7, 3) := by decide +kernel
theorem dX8_contribute_37 : decode cX8_contribute 37 = .ok (.invokevirtual 93, 3) := by decide +kernel
theorem dX8_contribute_40 : decode cX8_contribute 40 = .ok (.aload_n 0, 1) := by decide +kernel
theorem dX8_contribute_41 : decode cX8_contribute 41 = .ok (.iload_n 1, 1) := by decide +kernel
theorem dX8_contribute_42 : decode cX8_contribute 42 = .ok (.iconst 0, 1) := by decide +kernel
theorem dX8_contribute_43 : decode cX8_contribute 43 = .ok (.aload_n 0, 1) := by decide +kernel
theorem dX8_contribute_44 : decode cX8_contribute 44 = .ok (.iload_n 1, 1) := by decide +kernel
theorem dX8_contribute_45 : decode cX8_contribute 45 = .ok (.iconst 0, 1) := by decide +kernel
theorem dX8_contribute_46 : decode cX8_contribute 46 = .ok (.invokevirtual 72, 3) := by decide +kernel
theorem dX8_contribute_49 : decode cX8_contribute 49 = .ok (.iload_n 2, 1) := by decide +kernel
theorem dX8_contribute_50 : decode cX8_contribute 50 = .ok (.isub, 1) := by decide +kernel
theorem dX8_contribute_51 : decode cX8_contribute 51 = .ok (.invokevirtual 97, 3) := by decide +kernel
theorem dX8_contribute_54 : decode cX8_contribute 54 = .ok (.aload_n 0, 1) := by decide +kernel
theorem dX8_contribute_55 : decode cX8_contribute 55 = .ok (.getfield 7, 3) := by decide +kernel
theorem dX8_contribute_58 : decode cX8_contribute 58 = .ok (.iconst 4, 1) := by decide +kernel
theorem dX8_contribute_59 : decode cX8_contribute 59 = .ok (.dup2, 1) := by decide +kernel
theorem dX8_contribute_60 : decode cX8_contribute 60 = .ok (.iaload, 1) := by decide +kernel
theorem dX8_contribute_61 : decode cX8_contribute 61 = .ok (.iload_n 2, 1) := by decide +kernel
theorem dX8_contribute_62 : decode cX8_contribute 62 = .ok (.iadd, 1) := by decide +kernel
theorem dX8_contribute_63 : decode cX8_contribute 63 = .ok (.iastore, 1) := by decide +kernel
theorem dX8_contribute_64 : decode cX8_contribute 64 = .ok (.aload_n 0, 1) := by decide +kernel
theorem dX8_contribute_65 : decode cX8_contribute 65 = .ok (.getfield 7, 3) := by decide +kernel
theorem dX8_contribute_68 : decode cX8_contribute 68 = .ok (.iconst 4, 1) := by decide +kernel
theorem dX8_contribute_69 : decode cX8_contribute 69 = .ok (.iaload, 1) := by decide +kernel
theorem dX8_contribute_70 : decode cX8_contribute 70 = .ok (.ireturn, 1) := by decide +kernel
theorem dX8_horizonCount_0 : decode cX8_horizonCount 0 = .ok (.aload_n 0, 1) := by decide +kernel
theorem dX8_horizonCount_1 : decode cX8_horizonCount 1 = .ok (.iconst 0, 1) := by decide +kernel
theorem dX8_horizonCount_2 : decode cX8_horizonCount 2 = .ok (.putfield 54, 3) := by decide +kernel
theorem dX8_horizonCount_5 : decode cX8_horizonCount 5 = .ok (.aload_n 0, 1) := by decide +kernel
theorem dX8_horizonCount_6 : decode cX8_horizonCount 6 = .ok (.getfield 7, 3) := by decide +kernel
theorem dX8_horizonCount_9 : decode cX8_horizonCount 9 = .ok (.iconst 0, 1) := by decide +kernel
theorem dX8_horizonCount_10 : decode cX8_horizonCount 10 = .ok (.iaload, 1) := by decide +kernel
theorem dX8_horizonCount_11 : decode cX8_horizonCount 11 = .ok (.ireturn, 1) := by decide +kernel
theorem dX8_ofHorizon_0 : decode cX8_ofHorizon 0 = .ok (.aload_n 0, 1) := by decide +kernel
theorem dX8_ofHorizon_1 : decode cX8_ofHorizon 1 = .ok (.aload_n 0, 1) := by decide +kernel
theorem dX8_ofHorizon_2 : decode cX8_ofHorizon 2 = .ok (.iload_n 1, 1) := by decide +kernel
theorem dX8_ofHorizon_3 : decode cX8_ofHorizon 3 = .ok (.invokevirtual 110, 3) := by decide +kernel
theorem dX8_ofHorizon_6 : decode cX8_ofHorizon 6 = .ok (.ifCond .eq 7, 3) := by decide +kernel
theorem dX8_ofHorizon_9 : decode cX8_ofHorizon 9 = .ok (.iconst 0, 1) := by decide +kernel
theorem dX8_ofHorizon_10 : decode cX8_ofHorizon 10 = .ok (.goto 4, 3) := by decide +kernel
theorem dX8_ofHorizon_13 : decode cX8_ofHorizon 13 = .ok (.iconst 1, 1) := by decide +kernel
theorem dX8_ofHorizon_14 : decode cX8_ofHorizon 14 = .ok (.invokevirtual 89, 3) := by decide +kernel
theorem dX8_ofHorizon_17 : decode cX8_ofHorizon 17 = .ok (.ifCond .eq 7, 3) := by decide +kernel
theorem dX8_ofHorizon_20 : decode cX8_ofHorizon 20 = .ok (.iconst 0, 1) := by decide +kernel
theorem dX8_ofHorizon_21 : decode cX8_ofHorizon 21 = .ok (.goto 9, 3) := by decide +kernel
theorem dX8_ofHorizon_24 : decode cX8_ofHorizon 24 = .ok (.aload_n 0, 1) := by decide +kernel
theorem dX8_ofHorizon_25 : decode cX8_ofHorizon 25 = .ok (.iload_n 1, 1) := by decide +kernel
theorem dX8_ofHorizon_26 : decode cX8_ofHorizon 26 = .ok (.iload_n 2, 1) := by decide +kernel
theorem dX8_ofHorizon_27 : decode cX8_ofHorizon 27 = .ok (.invokevirtual 86, 3) := by decide +kernel
theorem dX8_ofHorizon_30 : decode cX8_ofHorizon 30 = .ok (.ireturn, 1) := by decide +kernel
theorem dX8_priceOf_0 : decode cX8_priceOf 0 = .ok (.aload_n 0, 1) := by decide +kernel
theorem dX8_priceOf_1 : decode cX8_priceOf 1 = .ok (.iload_n 1, 1) := by decide +kernel
theorem dX8_priceOf_2 : decode cX8_priceOf 2 = .ok (.iconst 0, 1) := by decide +kernel
theorem dX8_priceOf_3 : decode cX8_priceOf 3 = .ok (.invokevirtual 160, 3) := by decide +kernel
theorem dX8_priceOf_6 : decode cX8_priceOf 6 = .ok (.ireturn, 1) := by decide +kernel
theorem dX8_quoteOf_0 : decode cX8_quoteOf 0 = .ok (.aload_n 0, 1) := by decide +kernel
theorem dX8_quoteOf_1 : decode cX8_quoteOf 1 = .ok (.iload_n 1, 1) := by decide +kernel
theorem dX8_quoteOf_2 : decode cX8_quoteOf 2 = .ok (.iconst 1, 1) := by decide +kernel
theorem dX8_quoteOf_3 : decode cX8_quoteOf 3 = .ok (.invokevirtual 160, 3) := by decide +kernel
theorem dX8_quoteOf_6 : decode cX8_quoteOf 6 = .ok (.ireturn, 1) := by decide +kernel
theorem dX8_rangeOf_0 : decode cX8_rangeOf 0 = .ok (.aload_n 0, 1) := by decide +kernel
theorem dX8_rangeOf_1 : decode cX8_rangeOf 1 = .ok (.iload_n 1, 1) := by decide +kernel
theorem dX8_rangeOf_2 : decode cX8_rangeOf 2 = .ok (.iconst 2, 1) := by decide +kernel
theorem dX8_rangeOf_3 : decode cX8_rangeOf 3 = .ok (.invokevirtual 160, 3) := by decide +kernel
theorem dX8_rangeOf_6 : decode cX8_rangeOf 6 = .ok (.ireturn, 1) := by decide +kernel
theorem dX8_traderCount_0 : decode cX8_traderCount 0 = .ok (.aload_n 0, 1) := by decide +kernel
theorem dX8_traderCount_1 : decode cX8_traderCount 1 = .ok (.iconst 0, 1) := by decide +kernel
theorem dX8_traderCount_2 : decode cX8_traderCount 2 = .ok (.putfield 54, 3) := by decide +kernel
theorem dX8_traderCount_5 : decode cX8_traderCount 5 = .ok (.aload_n 0, 1) := by decide +kernel
theorem dX8_traderCount_6 : decode cX8_traderCount 6 = .ok (.getfield 7, 3) := by decide +kernel
theorem dX8_traderCount_9 : decode cX8_traderCount 9 = .ok (.iconst 1, 1) := by decide +kernel
theorem dX8_traderCount_10 : decode cX8_traderCount 10 = .ok (.iaload, 1) := by decide +kernel
theorem dX8_traderCount_11 : decode cX8_traderCount 11 = .ok (.ireturn, 1) := by decide +kernel
theorem dX8_ofTrader_0 : decode cX8_ofTrader 0 = .ok (.aload_n 0, 1) := by decide +kernel
theorem dX8_ofTrader_1 : decode cX8_ofTrader 1 = .ok (.aload_n 0, 1) := by decide +kernel
theorem dX8_ofTrader_2 : decode cX8_ofTrader 2 = .ok (.iload_n 1, 1) := by decide +kernel
theorem dX8_ofTrader_3 : decode cX8_ofTrader 3 = .ok (.invokevirtual 107, 3) := by decide +kernel
theorem dX8_ofTrader_6 : decode cX8_ofTrader 6 = .ok (.ifCond .eq 7, 3) := by decide +kernel
theorem dX8_ofTrader_9 : decode cX8_ofTrader 9 = .ok (.iconst 0, 1) := by decide +kernel
theorem dX8_ofTrader_10 : decode cX8_ofTrader 10 = .ok (.goto 4, 3) := by decide +kernel
theorem dX8_ofTrader_13 : decode cX8_ofTrader 13 = .ok (.iconst 1, 1) := by decide +kernel
theorem dX8_ofTrader_14 : decode cX8_ofTrader 14 = .ok (.invokevirtual 89, 3) := by decide +kernel
theorem dX8_ofTrader_17 : decode cX8_ofTrader 17 = .ok (.ifCond .eq 7, 3) := by decide +kernel
theorem dX8_ofTrader_20 : decode cX8_ofTrader 20 = .ok (.iconst 0, 1) := by decide +kernel
theorem dX8_ofTrader_21 : decode cX8_ofTrader 21 = .ok (.goto 9, 3) := by decide +kernel
theorem dX8_ofTrader_24 : decode cX8_ofTrader 24 = .ok (.aload_n 0, 1) := by decide +kernel
theorem dX8_ofTrader_25 : decode cX8_ofTrader 25 = .ok (.iload_n 1, 1) := by decide +kernel
theorem dX8_ofTrader_26 : decode cX8_ofTrader 26 = .ok (.iload_n 2, 1) := by decide +kernel
theorem dX8_ofTrader_27 : decode cX8_ofTrader 27 = .ok (.invokevirtual 72, 3) := by decide +kernel
theorem dX8_ofTrader_30 : decode cX8_ofTrader 30 = .ok (.ireturn, 1) := by decide +kernel
theorem dX8_moneyOf_0 : decode cX8_moneyOf 0 = .ok (.aload_n 0, 1) := by decide +kernel
theorem dX8_moneyOf_1 : decode cX8_moneyOf 1 = .ok (.iload_n 1, 1) := by decide +kernel
theorem dX8_moneyOf_2 : decode cX8_moneyOf 2 = .ok (.iconst 0, 1) := by decide +kernel
theorem dX8_moneyOf_3 : decode cX8_moneyOf 3 = .ok (.invokevirtual 163, 3) := by decide +kernel
theorem dX8_moneyOf_6 : decode cX8_moneyOf 6 = .ok (.ireturn, 1) := by decide +kernel
theorem dX8_isCalled_0 : decode cX8_isCalled 0 = .ok (.aload_n 0, 1) := by decide +kernel
theorem dX8_isCalled_1 : decode cX8_isCalled 1 = .ok (.iload_n 1, 1) := by decide +kernel
theorem dX8_isCalled_2 : decode cX8_isCalled 2 = .ok (.iconst 1, 1) := by decide +kernel
theorem dX8_isCalled_3 : decode cX8_isCalled 3 = .ok (.invokevirtual 163, 3) := by decide +kernel
theorem dX8_isCalled_6 : decode cX8_isCalled 6 = .ok (.iconst 1, 1) := by decide +kernel
theorem dX8_isCalled_7 : decode cX8_isCalled 7 = .ok (.if_icmp .ne 7, 3) := by decide +kernel
theorem dX8_isCalled_10 : decode cX8_isCalled 10 = .ok (.iconst 1, 1) := by decide +kernel
theorem dX8_isCalled_11 : decode cX8_isCalled 11 = .ok (.goto 4, 3) := by decide +kernel
theorem dX8_isCalled_14 : decode cX8_isCalled 14 = .ok (.iconst 0, 1) := by decide +kernel
theorem dX8_isCalled_15 : decode cX8_isCalled 15 = .ok (.ireturn, 1) := by decide +kernel
theorem dX8_hasDefaulted_0 : decode cX8_hasDefaulted 0 = .ok (.aload_n 0, 1) := by decide +kernel
theorem dX8_hasDefaulted_1 : decode cX8_hasDefaulted 1 = .ok (.iload_n 1, 1) := by decide +kernel
theorem dX8_hasDefaulted_2 : decode cX8_hasDefaulted 2 = .ok (.iconst 2, 1) := by decide +kernel
theorem dX8_hasDefaulted_3 : decode cX8_hasDefaulted 3 = .ok (.invokevirtual 163, 3) := by decide +kernel
theorem dX8_hasDefaulted_6 : decode cX8_hasDefaulted 6 = .ok (.iconst 1, 1) := by decide +kernel
theorem dX8_hasDefaulted_7 : decode cX8_hasDefaulted 7 = .ok (.if_icmp .ne 7, 3) := by decide +kernel
theorem dX8_hasDefaulted_10 : decode cX8_hasDefaulted 10 = .ok (.iconst 1, 1) := by decide +kernel
theorem dX8_hasDefaulted_11 : decode cX8_hasDefaulted 11 = .ok (.goto 4, 3) := by decide +kernel
theorem dX8_hasDefaulted_14 : decode cX8_hasDefaulted 14 = .ok (.iconst 0, 1) := by decide +kernel
theorem dX8_hasDefaulted_15 : decode cX8_hasDefaulted 15 = .ok (.ireturn, 1) := by decide +kernel
theorem dX8_positionOf_0 : decode cX8_positionOf 0 = .ok (.aload_n 0, 1) := by decide +kernel
theorem dX8_positionOf_1 : decode cX8_positionOf 1 = .ok (.aload_n 0, 1) := by decide +kernel
theorem dX8_positionOf_2 : decode cX8_positionOf 2 = .ok (.iload_n 1, 1) := by decide +kernel
theorem dX8_positionOf_3 : decode cX8_positionOf 3 = .ok (.invokevirtual 107, 3) := by decide +kernel
theorem dX8_positionOf_6 : decode cX8_positionOf 6 = .ok (.ifCond .eq 15, 3) := by decide +kernel
theorem dX8_positionOf_9 : decode cX8_positionOf 9 = .ok (.aload_n 0, 1) := by decide +kernel
theorem dX8_positionOf_10 : decode cX8_positionOf 10 = .ok (.iload_n 2, 1) := by decide +kernel
theorem dX8_positionOf_11 : decode cX8_positionOf 11 = .ok (.invokevirtual 110, 3) := by decide +kernel
theorem dX8_positionOf_14 : decode cX8_positionOf 14 = .ok (.ifCond .eq 7, 3) := by decide +kernel
theorem dX8_positionOf_17 : decode cX8_positionOf 17 = .ok (.iconst 0, 1) := by decide +kernel
theorem dX8_positionOf_18 : decode cX8_positionOf 18 = .ok (.goto 4, 3) := by decide +kernel
theorem dX8_positionOf_21 : decode cX8_positionOf 21 = .ok (.iconst 1, 1) := by decide +kernel
theorem dX8_positionOf_22 : decode cX8_positionOf 22 = .ok (.invokevirtual 89, 3) := by decide +kernel
theorem dX8_positionOf_25 : decode cX8_positionOf 25 = .ok (.ifCond .eq 7, 3) := by decide +kernel
theorem dX8_positionOf_28 : decode cX8_positionOf 28 = .ok (.iconst 0, 1) := by decide +kernel
theorem dX8_positionOf_29 : decode cX8_positionOf 29 = .ok (.goto 9, 3) := by decide +kernel
theorem dX8_positionOf_32 : decode cX8_positionOf 32 = .ok (.aload_n 0, 1) := by decide +kernel
theorem dX8_positionOf_33 : decode cX8_positionOf 33 = .ok (.iload_n 1, 1) := by decide +kernel
theorem dX8_positionOf_34 : decode cX8_positionOf 34 = .ok (.iload_n 2, 1) := by decide +kernel
theorem dX8_positionOf_35 : decode cX8_positionOf 35 = .ok (.invokevirtual 79, 3) := by decide +kernel
theorem dX8_positionOf_38 : decode cX8_positionOf 38 = .ok (.ireturn, 1) := by decide +kernel
theorem dX8_openQuantity_0 : decode cX8_openQuantity 0 = .ok (.aload_n 0, 1) := by decide +kernel
theorem dX8_openQuantity_1 : decode cX8_openQuantity 1 = .ok (.aload_n 0, 1) := by decide +kernel
theorem dX8_openQuantity_2 : decode cX8_openQuantity 2 = .ok (.iload_n 1, 1) := by decide +kernel
theorem dX8_openQuantity_3 : decode cX8_openQuantity 3 = .ok (.invokevirtual 110, 3) := by decide +kernel
theorem dX8_openQuantity_6 : decode cX8_openQuantity 6 = .ok (.ifCond .eq 7, 3) := by decide +kernel
theorem dX8_openQuantity_9 : decode cX8_openQuantity 9 = .ok (.iconst 0, 1) := by decide +kernel
theorem dX8_openQuantity_10 : decode cX8_openQuantity 10 = .ok (.goto 4, 3) := by decide +kernel
theorem dX8_openQuantity_13 : decode cX8_openQuantity 13 = .ok (.iconst 1, 1) := by decide +kernel
theorem dX8_openQuantity_14 : decode cX8_openQuantity 14 = .ok (.invokevirtual 89, 3) := by decide +kernel
theorem dX8_openQuantity_17 : decode cX8_openQuantity 17 = .ok (.ifCond .eq 5, 3) := by decide +kernel
theorem dX8_openQuantity_20 : decode cX8_openQuantity 20 = .ok (.iconst 0, 1) := by decide +kernel
theorem dX8_openQuantity_21 : decode cX8_openQuantity 21 = .ok (.ireturn, 1) := by decide +kernel
theorem dX8_openQuantity_22 : decode cX8_openQuantity 22 = .ok (.iconst 0, 1) := by decide +kernel
theorem dX8_openQuantity_23 : decode cX8_openQuantity 23 = .ok (.istore_n 2, 1) := by decide +kernel
theorem dX8_openQuantity_24 : decode cX8_openQuantity 24 = .ok (.iconst 0, 1) := by decide +kernel
theorem dX8_openQuantity_25 : decode cX8_openQuantity 25 = .ok (.istore_n 3, 1) := by decide +kernel
theorem dX8_openQuantity_26 : decode cX8_openQuantity 26 = .ok (.iload_n 3, 1) := by decide +kernel
theorem dX8_openQuantity_27 : decode cX8_openQuantity 27 = .ok (.aload_n 0, 1) := by decide +kernel
theorem dX8_openQuantity_28 : decode cX8_openQuantity 28 = .ok (.getfield 7, 3) := by decide +kernel
theorem dX8_openQuantity_31 : decode cX8_openQuantity 31 = .ok (.iconst 2, 1) := by decide +kernel
theorem dX8_openQuantity_32 : decode cX8_openQuantity 32 = .ok (.iaload, 1) := by decide +kernel
theorem dX8_openQuantity_33 : decode cX8_openQuantity 33 = .ok (.if_icmp .ge 32, 3) := by decide +kernel
theorem dX8_openQuantity_36 : decode cX8_openQuantity 36 = .ok (.iload_n 2, 1) := by decide +kernel
theorem dX8_openQuantity_37 : decode cX8_openQuantity 37 = .ok (.aload_n 0, 1) := by decide +kernel
theorem dX8_openQuantity_38 : decode cX8_openQuantity 38 = .ok (.iload_n 3, 1) := by decide +kernel
theorem dX8_openQuantity_39 : decode cX8_openQuantity 39 = .ok (.iconst 2, 1) := by decide +kernel
theorem dX8_openQuantity_40 : decode cX8_openQuantity 40 = .ok (.invokevirtual 76, 3) := by decide +kernel
theorem dX8_openQuantity_43 : decode cX8_openQuantity 43 = .ok (.iload_n 1, 1) := by decide +kernel
theorem dX8_openQuantity_44 : decode cX8_openQuantity 44 = .ok (.if_icmp .ne 12, 3) := by decide +kernel
theorem dX8_openQuantity_47 : decode cX8_openQuantity 47 = .ok (.aload_n 0, 1) := by decide +kernel
theorem dX8_openQuantity_48 : decode cX8_openQuantity 48 = .ok (.iload_n 3, 1) := by decide +kernel
theorem dX8_openQuantity_49 : decode cX8_openQuantity 49 = .ok (.iconst 3, 1) := by decide +kernel
theorem dX8_openQuantity_50 : decode cX8_openQuantity 50 = .ok (.invokevirtual 76, 3) := by decide +kernel
theorem dX8_openQuantity_53 : decode cX8_openQuantity 53 = .ok (.goto 4, 3) := by decide +kernel
theorem dX8_openQuantity_56 : decode cX8_openQuantity 56 = .ok (.iconst 0, 1) := by decide +kernel
theorem dX8_openQuantity_57 : decode cX8_openQuantity 57 = .ok (.iadd, 1) := by decide +kernel
theorem dX8_openQuantity_58 : decode cX8_openQuantity 58 = .ok (.istore_n 2, 1) := by decide +kernel
theorem dX8_openQuantity_59 : decode cX8_openQuantity 59 = .ok (.iinc 3 1, 3) := by decide +kernel
theorem dX8_openQuantity_62 : decode cX8_openQuantity 62 = .ok (.goto (-36), 3) := by decide +kernel
theorem dX8_openQuantity_65 : decode cX8_openQuantity 65 = .ok (.iload_n 2, 1) := by decide +kernel
theorem dX8_openQuantity_66 : decode cX8_openQuantity 66 = .ok (.ireturn, 1) := by decide +kernel
theorem dX8_contractCount_0 : decode cX8_contractCount 0 = .ok (.aload_n 0, 1) := by decide +kernel
theorem dX8_contractCount_1 : decode cX8_contractCount 1 = .ok (.iconst 0, 1) := by decide +kernel
theorem dX8_contractCount_2 : decode cX8_contractCount 2 = .ok (.putfield 54, 3) := by decide +kernel
theorem dX8_contractCount_5 : decode cX8_contractCount 5 = .ok (.aload_n 0, 1) := by decide +kernel
theorem dX8_contractCount_6 : decode cX8_contractCount 6 = .ok (.getfield 7, 3) := by decide +kernel
theorem dX8_contractCount_9 : decode cX8_contractCount 9 = .ok (.iconst 2, 1) := by decide +kernel
theorem dX8_contractCount_10 : decode cX8_contractCount 10 = .ok (.iaload, 1) := by decide +kernel
theorem dX8_contractCount_11 : decode cX8_contractCount 11 = .ok (.ireturn, 1) := by decide +kernel
theorem dX8_ofContract_0 : decode cX8_ofContract 0 = .ok (.aload_n 0, 1) := by decide +kernel
theorem dX8_ofContract_1 : decode cX8_ofContract 1 = .ok (.aload_n 0, 1) := by decide +kernel
theorem dX8_ofContract_2 : decode cX8_ofContract 2 = .ok (.iload_n 1, 1) := by decide +kernel
theorem dX8_ofContract_3 : decode cX8_ofContract 3 = .ok (.invokevirtual 166, 3) := by decide +kernel
theorem dX8_ofContract_6 : decode cX8_ofContract 6 = .ok (.ifCond .eq 7, 3) := by decide +kernel
theorem dX8_ofContract_9 : decode cX8_ofContract 9 = .ok (.iconst 0, 1) := by decide +kernel
theorem dX8_ofContract_10 : decode cX8_ofContract 10 = .ok (.goto 4, 3) := by decide +kernel
theorem dX8_ofContract_13 : decode cX8_ofContract 13 = .ok (.iconst 1, 1) := by decide +kernel
theorem dX8_ofContract_14 : decode cX8_ofContract 14 = .ok (.invokevirtual 89, 3) := by decide +kernel
theorem dX8_ofContract_17 : decode cX8_ofContract 17 = .ok (.ifCond .eq 7, 3) := by decide +kernel
theorem dX8_ofContract_20 : decode cX8_ofContract 20 = .ok (.iconst 0, 1) := by decide +kernel
theorem dX8_ofContract_21 : decode cX8_ofContract 21 = .ok (.goto 9, 3) := by decide +kernel
theorem dX8_ofContract_24 : decode cX8_ofContract 24 = .ok (.aload_n 0, 1) := by decide +kernel
theorem dX8_ofContract_25 : decode cX8_ofContract 25 = .ok (.iload_n 1, 1) := by decide +kernel
theorem dX8_ofContract_26 : decode cX8_ofContract 26 = .ok (.iload_n 2, 1) := by decide +kernel
theorem dX8_ofContract_27 : decode cX8_ofContract 27 = .ok (.invokevirtual 76, 3) := by decide +kernel
theorem dX8_ofContract_30 : decode cX8_ofContract 30 = .ok (.ireturn, 1) := by decide +kernel
theorem dX8_buyerOf_0 : decode cX8_buyerOf 0 = .ok (.aload_n 0, 1) := by decide +kernel
theorem dX8_buyerOf_1 : decode cX8_buyerOf 1 = .ok (.iload_n 1, 1) := by decide +kernel
theorem dX8_buyerOf_2 : decode cX8_buyerOf 2 = .ok (.iconst 0, 1) := by decide +kernel
theorem dX8_buyerOf_3 : decode cX8_buyerOf 3 = .ok (.invokevirtual 169, 3) := by decide +kernel
theorem dX8_buyerOf_6 : decode cX8_buyerOf 6 = .ok (.ireturn, 1) := by decide +kernel
theorem dX8_sellerOf_0 : decode cX8_sellerOf 0 = .ok (.aload_n 0, 1) := by decide +kernel
theorem dX8_sellerOf_1 : decode cX8_sellerOf 1 = .ok (.iload_n 1, 1) := by decide +kernel
theorem dX8_sellerOf_2 : decode cX8_sellerOf 2 = .ok (.iconst 1, 1) := by decide +kernel
theorem dX8_sellerOf_3 : decode cX8_sellerOf 3 = .ok (.invokevirtual 169, 3) := by decide +kernel
theorem dX8_sellerOf_6 : decode cX8_sellerOf 6 = .ok (.ireturn, 1) := by decide +kernel
theorem dX8_horizonOf_0 : decode cX8_horizonOf 0 = .ok (.aload_n 0, 1) := by decide +kernel
theorem dX8_horizonOf_1 : decode cX8_horizonOf 1 = .ok (.iload_n 1, 1) := by decide +kernel
theorem dX8_horizonOf_2 : decode cX8_horizonOf 2 = .ok (.iconst 2, 1) := by decide +kernel
theorem dX8_horizonOf_3 : decode cX8_horizonOf 3 = .ok (.invokevirtual 169, 3) := by decide +kernel
theorem dX8_horizonOf_6 : decode cX8_horizonOf 6 = .ok (.ireturn, 1) := by decide +kernel
theorem dX8_quantityOf_0 : decode cX8_quantityOf 0 = .ok (.aload_n 0, 1) := by decide +kernel
theorem dX8_quantityOf_1 : decode cX8_quantityOf 1 = .ok (.iload_n 1, 1) := by decide +kernel
theorem dX8_quantityOf_2 : decode cX8_quantityOf 2 = .ok (.iconst 3, 1) := by decide +kernel
theorem dX8_quantityOf_3 : decode cX8_quantityOf 3 = .ok (.invokevirtual 169, 3) := by decide +kernel
theorem dX8_quantityOf_6 : decode cX8_quantityOf 6 = .ok (.ireturn, 1) := by decide +kernel
theorem dX8_daysLeft_0 : decode cX8_daysLeft 0 = .ok (.aload_n 0, 1) := by decide +kernel
theorem dX8_daysLeft_1 : decode cX8_daysLeft 1 = .ok (.aload_n 0, 1) := by decide +kernel
theorem dX8_daysLeft_2 : decode cX8_daysLeft 2 = .ok (.iload_n 1, 1) := by decide +kernel
theorem dX8_daysLeft_3 : decode cX8_daysLeft 3 = .ok (.invokevirtual 166, 3) := by decide +kernel
theorem dX8_daysLeft_6 : decode cX8_daysLeft 6 = .ok (.ifCond .eq 7, 3) := by decide +kernel
theorem dX8_daysLeft_9 : decode cX8_daysLeft 9 = .ok (.iconst 0, 1) := by decide +kernel
theorem dX8_daysLeft_10 : decode cX8_daysLeft 10 = .ok (.goto 4, 3) := by decide +kernel
theorem dX8_daysLeft_13 : decode cX8_daysLeft 13 = .ok (.iconst 1, 1) := by decide +kernel
theorem dX8_daysLeft_14 : decode cX8_daysLeft 14 = .ok (.invokevirtual 89, 3) := by decide +kernel
theorem dX8_daysLeft_17 : decode cX8_daysLeft 17 = .ok (.ifCond .eq 7, 3) := by decide +kernel
theorem dX8_daysLeft_20 : decode cX8_daysLeft 20 = .ok (.iconst 0, 1) := by decide +kernel
theorem dX8_daysLeft_21 : decode cX8_daysLeft 21 = .ok (.goto 16, 3) := by decide +kernel
theorem dX8_daysLeft_24 : decode cX8_daysLeft 24 = .ok (.aload_n 0, 1) := by decide +kernel
theorem dX8_daysLeft_25 : decode cX8_daysLeft 25 = .ok (.iload_n 1, 1) := by decide +kernel
theorem dX8_daysLeft_26 : decode cX8_daysLeft 26 = .ok (.iconst 4, 1) := by decide +kernel
theorem dX8_daysLeft_27 : decode cX8_daysLeft 27 = .ok (.invokevirtual 76, 3) := by decide +kernel
theorem dX8_daysLeft_30 : decode cX8_daysLeft 30 = .ok (.aload_n 0, 1) := by decide +kernel
theorem dX8_daysLeft_31 : decode cX8_daysLeft 31 = .ok (.getfield 7, 3) := by decide +kernel
theorem dX8_daysLeft_34 : decode cX8_daysLeft 34 = .ok (.iconst 3, 1) := by decide +kernel
theorem dX8_daysLeft_35 : decode cX8_daysLeft 35 = .ok (.iaload, 1) := by decide +kernel
theorem dX8_daysLeft_36 : decode cX8_daysLeft 36 = .ok (.isub, 1) := by decide +kernel
theorem dX8_daysLeft_37 : decode cX8_daysLeft 37 = .ok (.ireturn, 1) := by decide +kernel
theorem dX8_marginOf_0 : decode cX8_marginOf 0 = .ok (.aload_n 0, 1) := by decide +kernel
theorem dX8_marginOf_1 : decode cX8_marginOf 1 = .ok (.aload_n 0, 1) := by decide +kernel
theorem dX8_marginOf_2 : decode cX8_marginOf 2 = .ok (.iload_n 1, 1) := by decide +kernel
theorem dX8_marginOf_3 : decode cX8_marginOf 3 = .ok (.invokevirtual 107, 3) := by decide +kernel
theorem dX8_marginOf_6 : decode cX8_marginOf 6 = .ok (.ifCond .eq 7, 3) := by decide +kernel
theorem dX8_marginOf_9 : decode cX8_marginOf 9 = .ok (.iconst 0, 1) := by decide +kernel
theorem dX8_marginOf_10 : decode cX8_marginOf 10 = .ok (.goto 4, 3) := by decide +kernel
theorem dX8_marginOf_13 : decode cX8_marginOf 13 = .ok (.iconst 1, 1) := by decide +kernel
theorem dX8_marginOf_14 : decode cX8_marginOf 14 = .ok (.invokevirtual 89, 3) := by decide +kernel
theorem dX8_marginOf_17 : decode cX8_marginOf 17 = .ok (.ifCond .eq 7, 3) := by decide +kernel
theorem dX8_marginOf_20 : decode cX8_marginOf 20 = .ok (.iconst 0, 1) := by decide +kernel
theorem dX8_marginOf_21 : decode cX8_marginOf 21 = .ok (.goto 8, 3) := by decide +kernel
theorem dX8_marginOf_24 : decode cX8_marginOf 24 = .ok (.aload_n 0, 1) := by decide +kernel
theorem dX8_marginOf_25 : decode cX8_marginOf 25 = .ok (.iload_n 1, 1) := by decide +kernel
theorem dX8_marginOf_26 : decode cX8_marginOf 26 = .ok (.invokevirtual 104, 3) := by decide +kernel
theorem dX8_marginOf_29 : decode cX8_marginOf 29 = .ok (.ireturn, 1) := by decide +kernel
theorem dX8_marginByPositions_0 : decode cX8_marginByPositions 0 = .ok (.aload_n 0, 1) := by decide +kernel
theorem dX8_marginByPositions_1 : decode cX8_marginByPositions 1 = .ok (.aload_n 0, 1) := by decide +kernel
theorem dX8_marginByPositions_2 : decode cX8_marginByPositions 2 = .ok (.iload_n 1, 1) := by decide +kernel
theorem dX8_marginByPositions_3 : decode cX8_marginByPositions 3 = .ok (.invokevirtual 107, 3) := by decide +kernel
theorem dX8_marginByPositions_6 : decode cX8_marginByPositions 6 = .ok (.ifCond .eq 7, 3) := by decide +kernel
theorem dX8_marginByPositions_9 : decode cX8_marginByPositions 9 = .ok (.iconst 0, 1) := by decide +kernel
theorem dX8_marginByPositions_10 : decode cX8_marginByPositions 10 = .ok (.goto 4, 3) := by decide +kernel
theorem dX8_marginByPositions_13 : decode cX8_marginByPositions 13 = .ok (.iconst 1, 1) := by decide +kernel
theorem dX8_marginByPositions_14 : decode cX8_marginByPositions 14 = .ok (.invokevirtual 89, 3) := by decide +kernel
theorem dX8_marginByPositions_17 : decode cX8_marginByPositions 17 = .ok (.ifCond .eq 7, 3) := by decide +kernel
theorem dX8_marginByPositions_20 : decode cX8_marginByPositions 20 = .ok (.iconst 0, 1) := by decide +kernel
theorem dX8_marginByPositions_21 : decode cX8_marginByPositions 21 = .ok (.goto 8, 3) := by decide +kernel
theorem dX8_marginByPositions_24 : decode cX8_marginByPositions 24 = .ok (.aload_n 0, 1) := by decide +kernel
theorem dX8_marginByPositions_25 : decode cX8_marginByPositions 25 = .ok (.iload_n 1, 1) := by decide +kernel
theorem dX8_marginByPositions_26 : decode cX8_marginByPositions 26 = .ok (.invokevirtual 104, 3) := by decide +kernel
theorem dX8_marginByPositions_29 : decode cX8_marginByPositions 29 = .ok (.ireturn, 1) := by decide +kernel
theorem dX8_variationOf_0 : decode cX8_variationOf 0 = .ok (.aload_n 0, 1) := by decide +kernel
theorem dX8_variationOf_1 : decode cX8_variationOf 1 = .ok (.aload_n 0, 1) := by decide +kernel
theorem dX8_variationOf_2 : decode cX8_variationOf 2 = .ok (.iload_n 1, 1) := by decide +kernel
theorem dX8_variationOf_3 : decode cX8_variationOf 3 = .ok (.invokevirtual 107, 3) := by decide +kernel
theorem dX8_variationOf_6 : decode cX8_variationOf 6 = .ok (.ifCond .eq 7, 3) := by decide +kernel
theorem dX8_variationOf_9 : decode cX8_variationOf 9 = .ok (.iconst 0, 1) := by decide +kernel
theorem dX8_variationOf_10 : decode cX8_variationOf 10 = .ok (.goto 4, 3) := by decide +kernel
theorem dX8_variationOf_13 : decode cX8_variationOf 13 = .ok (.iconst 1, 1) := by decide +kernel
theorem dX8_variationOf_14 : decode cX8_variationOf 14 = .ok (.invokevirtual 89, 3) := by decide +kernel
theorem dX8_variationOf_17 : decode cX8_variationOf 17 = .ok (.ifCond .eq 7, 3) := by decide +kernel
theorem dX8_variationOf_20 : decode cX8_variationOf 20 = .ok (.iconst 0, 1) := by decide +kernel
theorem dX8_variationOf_21 : decode cX8_variationOf 21 = .ok (.goto 8, 3) := by decide +kernel
theorem dX8_variationOf_24 : decode cX8_variationOf 24 = .ok (.aload_n 0, 1) := by decide +kernel
theorem dX8_variationOf_25 : decode cX8_variationOf 25 = .ok (.iload_n 1, 1) := by decide +kernel
theorem dX8_variationOf_26 : decode cX8_variationOf 26 = .ok (.invokevirtual 151, 3) := by decide +kernel
theorem dX8_variationOf_29 : decode cX8_variationOf 29 = .ok (.ireturn, 1) := by decide +kernel
theorem dX8_pays_0 : decode cX8_pays 0 = .ok (.iconst 0, 1) := by decide +kernel
theorem dX8_pays_1 : decode cX8_pays 1 = .ok (.istore_n 1, 1) := by decide +kernel
theorem dX8_pays_2 : decode cX8_pays 2 = .ok (.iconst 0, 1) := by decide +kernel
theorem dX8_pays_3 : decode cX8_pays 3 = .ok (.istore_n 2, 1) := by decide +kernel
theorem dX8_pays_4 : decode cX8_pays 4 = .ok (.iconst 0, 1) := by decide +kernel
theorem dX8_pays_5 : decode cX8_pays 5 = .ok (.istore_n 3, 1) := by decide +kernel
theorem dX8_pays_6 : decode cX8_pays 6 = .ok (.iload_n 3, 1) := by decide +kernel
theorem dX8_pays_7 : decode cX8_pays 7 = .ok (.aload_n 0, 1) := by decide +kernel
theorem dX8_pays_8 : decode cX8_pays 8 = .ok (.getfield 7, 3) := by decide +kernel
theorem dX8_pays_11 : decode cX8_pays 11 = .ok (.iconst 1, 1) := by decide +kernel
theorem dX8_pays_12 : decode cX8_pays 12 = .ok (.iaload, 1) := by decide +kernel
theorem dX8_pays_13 : decode cX8_pays 13 = .ok (.if_icmp .ge 29, 3) := by decide +kernel
theorem dX8_pays_16 : decode cX8_pays 16 = .ok (.aload_n 0, 1) := by decide +kernel
theorem dX8_pays_17 : decode cX8_pays 17 = .ok (.iload_n 3, 1) := by decide +kernel
theorem dX8_pays_18 : decode cX8_pays 18 = .ok (.invokevirtual 151, 3) := by decide +kernel
theorem dX8_pays_21 : decode cX8_pays 21 = .ok (.ifCond .ne 6, 3) := by decide +kernel
theorem dX8_pays_24 : decode cX8_pays 24 = .ok (.goto 12, 3) := by decide +kernel
theorem dX8_pays_27 : decode cX8_pays 27 = .ok (.iload_n 1, 1) := by decide +kernel
theorem dX8_pays_28 : decode cX8_pays 28 = .ok (.iconst 1, 1) := by decide +kernel
theorem dX8_pays_29 : decode cX8_pays 29 = .ok (.iload_n 3, 1) := by decide +kernel
theorem dX8_pays_30 : decode cX8_pays 30 = .ok (.ishl, 1) := by decide +kernel
theorem dX8_pays_31 : decode cX8_pays 31 = .ok (.ior, 1) := by decide +kernel
theorem dX8_pays_32 : decode cX8_pays 32 = .ok (.istore_n 1, 1) := by decide +kernel
theorem dX8_pays_33 : decode cX8_pays 33 = .ok (.iinc 2 1, 3) := by decide +kernel
theorem dX8_pays_36 : decode cX8_pays 36 = .ok (.iinc 3 1, 3) := by decide +kernel
theorem dX8_pays_39 : decode cX8_pays 39 = .ok (.goto (-33), 3) := by decide +kernel
theorem dX8_pays_42 : decode cX8_pays 42 = .ok (.aload_n 0, 1) := by decide +kernel
theorem dX8_pays_43 : decode cX8_pays 43 = .ok (.getfield 48, 3) := by decide +kernel
theorem dX8_pays_46 : decode cX8_pays 46 = .ok (.iconst 0, 1) := by decide +kernel
theorem dX8_pays_47 : decode cX8_pays 47 = .ok (.iconst 0, 1) := by decide +kernel
theorem dX8_pays_48 : decode cX8_pays 48 = .ok (.iastore, 1) := by decide +kernel
theorem dX8_pays_49 : decode cX8_pays 49 = .ok (.iconst 1, 1) := by decide +kernel
theorem dX8_pays_50 : decode cX8_pays 50 = .ok (.istore_n 3, 1) := by decide +kernel
theorem dX8_pays_51 : decode cX8_pays 51 = .ok (.iload_n 3, 1) := by decide +kernel
theorem dX8_pays_52 : decode cX8_pays 52 = .ok (.bipush 64, 2) := by decide +kernel
theorem dX8_pays_54 : decode cX8_pays 54 = .ok (.if_icmp .ge 86, 3) := by decide +kernel
theorem dX8_pays_57 : decode cX8_pays 57 = .ok (.aload_n 0, 1) := by decide +kernel
theorem dX8_pays_58 : decode cX8_pays 58 = .ok (.getfield 45, 3) := by decide +kernel
theorem dX8_pays_61 : decode cX8_pays 61 = .ok (.iload_n 3, 1) := by decide +kernel
theorem dX8_pays_62 : decode cX8_pays 62 = .ok (.iconst 0, 1) := by decide +kernel
theorem dX8_pays_63 : decode cX8_pays 63 = .ok (.iastore, 1) := by decide +kernel
theorem dX8_pays_64 : decode cX8_pays 64 = .ok (.iconst 0, 1) := by decide +kernel
theorem dX8_pays_65 : decode cX8_pays 65 = .ok (.istore 4, 2) := by decide +kernel
theorem dX8_pays_67 : decode cX8_pays 67 = .ok (.iload 4, 2) := by decide +kernel
theorem dX8_pays_69 : decode cX8_pays 69 = .ok (.aload_n 0, 1) := by decide +kernel
theorem dX8_pays_70 : decode cX8_pays 70 = .ok (.getfield 7, 3) := by decide +kernel
theorem dX8_pays_73 : decode cX8_pays 73 = .ok (.iconst 1, 1) := by decide +kernel
theorem dX8_pays_74 : decode cX8_pays 74 = .ok (.iaload, 1) := by decide +kernel
theorem dX8_pays_75 : decode cX8_pays 75 = .ok (.if_icmp .ge 31, 3) := by decide +kernel
theorem dX8_pays_78 : decode cX8_pays 78 = .ok (.aload_n 0, 1) := by decide +kernel
theorem dX8_pays_79 : decode cX8_pays 79 = .ok (.getfield 45, 3) := by decide +kernel
theorem dX8_pays_82 : decode cX8_pays 82 = .ok (.iload_n 3, 1) := by decide +kernel
theorem dX8_pays_83 : decode cX8_pays 83 = .ok (.dup2, 1) := by decide +kernel
theorem dX8_pays_84 : decode cX8_pays 84 = .ok (.iaload, 1) := by decide +kernel
theorem dX8_pays_85 : decode cX8_pays 85 = .ok (.iload_n 3, 1) := by decide +kernel
theorem dX8_pays_86 : decode cX8_pays 86 = .ok (.iload 4, 2) := by decide +kernel
theorem dX8_pays_88 : decode cX8_pays 88 = .ok (.ishr, 1) := by decide +kernel
theorem dX8_pays_89 : decode cX8_pays 89 = .ok (.iconst 1, 1) := by decide +kernel
theorem dX8_pays_90 : decode cX8_pays 90 = .ok (.iand, 1) := by decide +kernel
theorem dX8_pays_91 : decode cX8_pays 91 = .ok (.aload_n 0, 1) := by decide +kernel
theorem dX8_pays_92 : decode cX8_pays 92 = .ok (.iload 4, 2) := by decide +kernel
theorem dX8_pays_94 : decode cX8_pays 94 = .ok (.invokevirtual 151, 3) := by decide +kernel
theorem dX8_pays_97 : decode cX8_pays 97 = .ok (.imul, 1) := by decide +kernel
theorem dX8_pays_98 : decode cX8_pays 98 = .ok (.iadd, 1) := by decide +kernel
theorem dX8_pays_99 : decode cX8_pays 99 = .ok (.iastore, 1) := by decide +kernel
theorem dX8_pays_100 : decode cX8_pays 100 = .ok (.iinc 4 1, 3) := by decide +kernel
theorem dX8_pays_103 : decode cX8_pays 103 = .ok (.goto (-36), 3) := by decide +kernel
theorem dX8_pays_106 : decode cX8_pays 106 = .ok (.aload_n 0, 1) := by decide +kernel
theorem dX8_pays_107 : decode cX8_pays 107 = .ok (.getfield 48, 3) := by decide +kernel
theorem dX8_pays_110 : decode cX8_pays 110 = .ok (.iload_n 3, 1) := by decide +kernel
theorem dX8_pays_111 : decode cX8_pays 111 = .ok (.iload_n 3, 1) := by decide +kernel
theorem dX8_pays_112 : decode cX8_pays 112 = .ok (.iload_n 1, 1) := by decide +kernel
theorem dX8_pays_113 : decode cX8_pays 113 = .ok (.iconst (-1), 1) := by decide +kernel
theorem dX8_pays_114 : decode cX8_pays 114 = .ok (.ixor, 1) := by decide +kernel
theorem dX8_pays_115 : decode cX8_pays 115 = .ok (.iand, 1) := by decide +kernel
theorem dX8_pays_116 : decode cX8_pays 116 = .ok (.ifCond .ne 16, 3) := by decide +kernel
theorem dX8_pays_119 : decode cX8_pays 119 = .ok (.aload_n 0, 1) := by decide +kernel
theorem dX8_pays_120 : decode cX8_pays 120 = .ok (.getfield 45, 3) := by decide +kernel
theorem dX8_pays_123 : decode cX8_pays 123 = .ok (.iload_n 3, 1) := by decide +kernel
theorem dX8_pays_124 : decode cX8_pays 124 = .ok (.iaload, 1) := by decide +kernel
theorem dX8_pays_125 : decode cX8_pays 125 = .ok (.ifCond .ne 7, 3) := by decide +kernel
theorem dX8_pays_128 : decode cX8_pays 128 = .ok (.iconst 1, 1) := by decide +kernel
theorem dX8_pays_129 : decode cX8_pays 129 = .ok (.goto 4, 3) := by decide +kernel
theorem dX8_pays_132 : decode cX8_pays 132 = .ok (.iconst (-1), 1) := by decide +kernel
theorem dX8_pays_133 : decode cX8_pays 133 = .ok (.iastore, 1) := by decide +kernel
theorem dX8_pays_134 : decode cX8_pays 134 = .ok (.iinc 3 1, 3) := by decide +kernel
theorem dX8_pays_137 : decode cX8_pays 137 = .ok (.goto (-86), 3) := by decide +kernel
theorem dX8_pays_140 : decode cX8_pays 140 = .ok (.iconst 1, 1) := by decide +kernel
theorem dX8_pays_141 : decode cX8_pays 141 = .ok (.istore_n 3, 1) := by decide +kernel
theorem dX8_pays_142 : decode cX8_pays 142 = .ok (.iload_n 3, 1) := by decide +kernel
theorem dX8_pays_143 : decode cX8_pays 143 = .ok (.bipush 64, 2) := by decide +kernel
theorem dX8_pays_145 : decode cX8_pays 145 = .ok (.if_icmp .ge 115, 3) := by decide +kernel
theorem dX8_pays_148 : decode cX8_pays 148 = .ok (.aload_n 0, 1) := by decide +kernel
theorem dX8_pays_149 : decode cX8_pays 149 = .ok (.getfield 48, 3) := by decide +kernel
theorem dX8_pays_152 : decode cX8_pays 152 = .ok (.iload_n 3, 1) := by decide +kernel
theorem dX8_pays_153 : decode cX8_pays 153 = .ok (.iaload, 1) := by decide +kernel
theorem dX8_pays_154 : decode cX8_pays 154 = .ok (.ifCond .ge 6, 3) := by decide +kernel
theorem dX8_pays_157 : decode cX8_pays 157 = .ok (.goto 97, 3) := by decide +kernel
theorem dX8_pays_160 : decode cX8_pays 160 = .ok (.iload_n 3, 1) := by decide +kernel
theorem dX8_pays_161 : decode cX8_pays 161 = .ok (.iload_n 3, 1) := by decide +kernel
theorem dX8_pays_162 : decode cX8_pays 162 = .ok (.iconst 1, 1) := by decide +kernel
theorem dX8_pays_163 : decode cX8_pays 163 = .ok (.isub, 1) := by decide +kernel
theorem dX8_pays_164 : decode cX8_pays 164 = .ok (.iand, 1) := by decide +kernel
theorem dX8_pays_165 : decode cX8_pays 165 = .ok (.istore 4, 2) := by decide +kernel
theorem dX8_pays_167 : decode cX8_pays 167 = .ok (.iload 4, 2) := by decide +kernel
theorem dX8_pays_169 : decode cX8_pays 169 = .ok (.ifCond .le 85, 3) := by decide +kernel
theorem dX8_pays_172 : decode cX8_pays 172 = .ok (.aload_n 0, 1) := by decide +kernel
theorem dX8_pays_173 : decode cX8_pays 173 = .ok (.getfield 48, 3) := by decide +kernel
theorem dX8_pays_176 : decode cX8_pays 176 = .ok (.iload 4, 2) := by decide +kernel
theorem dX8_pays_178 : decode cX8_pays 178 = .ok (.iaload, 1) := by decide +kernel
theorem dX8_pays_179 : decode cX8_pays 179 = .ok (.ifCond .le 64, 3) := by decide +kernel
theorem dX8_pays_182 : decode cX8_pays 182 = .ok (.aload_n 0, 1) := by decide +kernel
theorem dX8_pays_183 : decode cX8_pays 183 = .ok (.getfield 48, 3) := by decide +kernel
theorem dX8_pays_186 : decode cX8_pays 186 = .ok (.iload_n 3, 1) := by decide +kernel
theorem dX8_pays_187 : decode cX8_pays 187 = .ok (.iload 4, 2) := by decide +kernel
theorem dX8_pays_189 : decode cX8_pays 189 = .ok (.ixor, 1) := by decide +kernel
theorem dX8_pays_190 : decode cX8_pays 190 = .ok (.iaload, 1) := by decide +kernel
theorem dX8_pays_191 : decode cX8_pays 191 = .ok (.ifCond .le 52, 3) := by decide +kernel
theorem dX8_pays_194 : decode cX8_pays 194 = .ok (.aload_n 0, 1) := by decide +kernel
theorem dX8_pays_195 : decode cX8_pays 195 = .ok (.getfield 48, 3) := by decide +kernel
theorem dX8_pays_198 : decode cX8_pays 198 = .ok (.iload 4, 2) := by decide +kernel
theorem dX8_pays_200 : decode cX8_pays 200 = .ok (.iaload, 1) := by decide +kernel
theorem dX8_pays_201 : decode cX8_pays 201 = .ok (.aload_n 0, 1) := by decide +kernel
theorem dX8_pays_202 : decode cX8_pays 202 = .ok (.getfield 48, 3) := by decide +kernel
theorem dX8_pays_205 : decode cX8_pays 205 = .ok (.iload_n 3, 1) := by decide +kernel
theorem dX8_pays_206 : decode cX8_pays 206 = .ok (.iload 4, 2) := by decide +kernel
theorem dX8_pays_208 : decode cX8_pays 208 = .ok (.ixor, 1) := by decide +kernel
theorem dX8_pays_209 : decode cX8_pays 209 = .ok (.iaload, 1) := by decide +kernel
theorem dX8_pays_210 : decode cX8_pays 210 = .ok (.iadd, 1) := by decide +kernel
theorem dX8_pays_211 : decode cX8_pays 211 = .ok (.aload_n 0, 1) := by decide +kernel
theorem dX8_pays_212 : decode cX8_pays 212 = .ok (.getfield 48, 3) := by decide +kernel
theorem dX8_pays_215 : decode cX8_pays 215 = .ok (.iload_n 3, 1) := by decide +kernel
theorem dX8_pays_216 : decode cX8_pays 216 = .ok (.iaload, 1) := by decide +kernel
theorem dX8_pays_217 : decode cX8_pays 217 = .ok (.if_icmp .le 26, 3) := by decide +kernel
theorem dX8_pays_220 : decode cX8_pays 220 = .ok (.aload_n 0, 1) := by decide +kernel
theorem dX8_pays_221 : decode cX8_pays 221 = .ok (.getfield 48, 3) := by decide +kernel
theorem dX8_pays_224 : decode cX8_pays 224 = .ok (.iload_n 3, 1) := by decide +kernel
theorem dX8_pays_225 : decode cX8_pays 225 = .ok (.aload_n 0, 1) := by decide +kernel
theorem dX8_pays_226 : decode cX8_pays 226 = .ok (.getfield 48, 3) := by decide +kernel
theorem dX8_pays_229 : decode cX8_pays 229 = .ok (.iload 4, 2) := by decide +kernel
theorem dX8_pays_231 : decode cX8_pays 231 = .ok (.iaload, 1) := by decide +kernel
theorem dX8_pays_232 : decode cX8_pays 232 = .ok (.aload_n 0, 1) := by decide +kernel
theorem dX8_pays_233 : decode cX8_pays 233 = .ok (.getfield 48, 3) := by decide +kernel
theorem dX8_pays_236 : decode cX8_pays 236 = .ok (.iload_n 3, 1) := by decide +kernel
theorem dX8_pays_237 : decode cX8_pays 237 = .ok (.iload 4, 2) := by decide +kernel
theorem dX8_pays_239 : decode cX8_pays 239 = .ok (.ixor, 1) := by decide +kernel
theorem dX8_pays_240 : decode cX8_pays 240 = .ok (.iaload, 1) := by decide +kernel
theorem dX8_pays_241 : decode cX8_pays 241 = .ok (.iadd, 1) := by decide +kernel
theorem dX8_pays_242 : decode cX8_pays 242 = .ok (.iastore, 1) := by decide +kernel
theorem dX8_pays_243 : decode cX8_pays 243 = .ok (.iload 4, 2) := by decide +kernel
theorem dX8_pays_245 : decode cX8_pays 245 = .ok (.iconst 1, 1) := by decide +kernel
theorem dX8_pays_246 : decode cX8_pays 246 = .ok (.isub, 1) := by decide +kernel
theorem dX8_pays_247 : decode cX8_pays 247 = .ok (.iload_n 3, 1) := by decide +kernel
theorem dX8_pays_248 : decode cX8_pays 248 = .ok (.iand, 1) := by decide +kernel
theorem dX8_pays_249 : decode cX8_pays 249 = .ok (.istore 4, 2) := by decide +kernel
theorem dX8_pays_251 : decode cX8_pays 251 = .ok (.goto (-84), 3) := by decide +kernel
theorem dX8_pays_254 : decode cX8_pays 254 = .ok (.iinc 3 1, 3) := by decide +kernel
theorem dX8_pays_257 : decode cX8_pays 257 = .ok (.goto (-115), 3) := by decide +kernel
theorem dX8_pays_260 : decode cX8_pays 260 = .ok (.iload_n 2, 1) := by decide +kernel
theorem dX8_pays_261 : decode cX8_pays 261 = .ok (.aload_n 0, 1) := by decide +kernel
theorem dX8_pays_262 : decode cX8_pays 262 = .ok (.getfield 48, 3) := by decide +kernel
theorem dX8_pays_265 : decode cX8_pays 265 = .ok (.iload_n 1, 1) := by decide +kernel
theorem dX8_pays_266 : decode cX8_pays 266 = .ok (.iaload, 1) := by decide +kernel
theorem dX8_pays_267 : decode cX8_pays 267 = .ok (.isub, 1) := by decide +kernel
theorem dX8_pays_268 : decode cX8_pays 268 = .ok (.ireturn, 1) := by decide +kernel
theorem dX8_payments_0 : decode cX8_payments 0 = .ok (.aload_n 0, 1) := by decide +kernel
theorem dX8_payments_1 : decode cX8_payments 1 = .ok (.iconst 0, 1) := by decide +kernel
theorem dX8_payments_2 : decode cX8_payments 2 = .ok (.putfield 54, 3) := by decide +kernel
theorem dX8_payments_5 : decode cX8_payments 5 = .ok (.aload_n 0, 1) := by decide +kernel
theorem dX8_payments_6 : decode cX8_payments 6 = .ok (.invokevirtual 172, 3) := by decide +kernel
theorem dX8_payments_9 : decode cX8_payments 9 = .ok (.ireturn, 1) := by decide +kernel
theorem dX8_paymentsByGroups_0 : decode cX8_paymentsByGroups 0 = .ok (.aload_n 0, 1) := by decide +kernel
theorem dX8_paymentsByGroups_1 : decode cX8_paymentsByGroups 1 = .ok (.iconst 0, 1) := by decide +kernel
theorem dX8_paymentsByGroups_2 : decode cX8_paymentsByGroups 2 = .ok (.putfield 54, 3) := by decide +kernel
theorem dX8_paymentsByGroups_5 : decode cX8_paymentsByGroups 5 = .ok (.aload_n 0, 1) := by decide +kernel
theorem dX8_paymentsByGroups_6 : decode cX8_paymentsByGroups 6 = .ok (.invokevirtual 172, 3) := by decide +kernel
theorem dX8_paymentsByGroups_9 : decode cX8_paymentsByGroups 9 = .ok (.ireturn, 1) := by decide +kernel
theorem dX8_takes_0 : decode cX8_takes 0 = .ok (.aload_n 0, 1) := by decide +kernel
theorem dX8_takes_1 : decode cX8_takes 1 = .ok (.aload_n 0, 1) := by decide +kernel
theorem dX8_takes_2 : decode cX8_takes 2 = .ok (.iload_n 1, 1) := by decide +kernel
theorem dX8_takes_3 : decode cX8_takes 3 = .ok (.invokevirtual 107, 3) := by decide +kernel
theorem dX8_takes_6 : decode cX8_takes 6 = .ok (.ifCond .ne 7, 3) := by decide +kernel
theorem dX8_takes_9 : decode cX8_takes 9 = .ok (.iconst 1, 1) := by decide +kernel
theorem dX8_takes_10 : decode cX8_takes 10 = .ok (.goto 18, 3) := by decide +kernel
theorem dX8_takes_13 : decode cX8_takes 13 = .ok (.aload_n 0, 1) := by decide +kernel
theorem dX8_takes_14 : decode cX8_takes 14 = .ok (.iload_n 1, 1) := by decide +kernel
theorem dX8_takes_15 : decode cX8_takes 15 = .ok (.iconst 2, 1) := by decide +kernel
theorem dX8_takes_16 : decode cX8_takes 16 = .ok (.invokevirtual 72, 3) := by decide +kernel
theorem dX8_takes_19 : decode cX8_takes 19 = .ok (.iconst 1, 1) := by decide +kernel
theorem dX8_takes_20 : decode cX8_takes 20 = .ok (.if_icmp .ne 7, 3) := by decide +kernel
theorem dX8_takes_23 : decode cX8_takes 23 = .ok (.iconst 2, 1) := by decide +kernel
theorem dX8_takes_24 : decode cX8_takes 24 = .ok (.goto 4, 3) := by decide +kernel
theorem dX8_takes_27 : decode cX8_takes 27 = .ok (.iconst 0, 1) := by decide +kernel
theorem dX8_takes_28 : decode cX8_takes 28 = .ok (.invokevirtual 89, 3) := by decide +kernel
theorem dX8_takes_31 : decode cX8_takes 31 = .ok (.ifCond .eq 5, 3) := by decide +kernel
theorem dX8_takes_34 : decode cX8_takes 34 = .ok (.iconst 0, 1) := by decide +kernel
theorem dX8_takes_35 : decode cX8_takes 35 = .ok (.ireturn, 1) := by decide +kernel
theorem dX8_takes_36 : decode cX8_takes 36 = .ok (.aload_n 0, 1) := by decide +kernel
theorem dX8_takes_37 : decode cX8_takes 37 = .ok (.iload_n 1, 1) := by decide +kernel
theorem dX8_takes_38 : decode cX8_takes 38 = .ok (.invokevirtual 144, 3) := by decide +kernel
theorem dX8_takes_41 : decode cX8_takes 41 = .ok (.istore_n 2, 1) := by decide +kernel
theorem dX8_takes_42 : decode cX8_takes 42 = .ok (.aload_n 0, 1) := by decide +kernel
theorem dX8_takes_43 : decode cX8_takes 43 = .ok (.iload_n 2, 1) := by decide +kernel
theorem dX8_takes_44 : decode cX8_takes 44 = .ok (.ifCond .ge 7, 3) := by decide +kernel
theorem dX8_takes_47 : decode cX8_takes 47 = .ok (.iconst 3, 1) := by decide +kernel
theorem dX8_takes_48 : decode cX8_takes 48 = .ok (.goto 4, 3) := by decide +kernel
theorem dX8_takes_51 : decode cX8_takes 51 = .ok (.iconst 0, 1) := by decide +kernel
theorem dX8_takes_52 : decode cX8_takes 52 = .ok (.invokevirtual 89, 3) := by decide +kernel
theorem dX8_takes_55 : decode cX8_takes 55 = .ok (.ifCond .eq 7, 3) := by decide +kernel
theorem dX8_takes_58 : decode cX8_takes 58 = .ok (.iconst 0, 1) := by decide +kernel
theorem dX8_takes_59 : decode cX8_takes 59 = .ok (.goto 4, 3) := by decide +kernel
theorem dX8_takes_62 : decode cX8_takes 62 = .ok (.iload_n 2, 1) := by decide +kernel
theorem dX8_takes_63 : decode cX8_takes 63 = .ok (.ireturn, 1) := by decide +kernel
theorem dX8_leastMargins_0 : decode cX8_leastMargins 0 = .ok (.aload_n 0, 1) := by decide +kernel
theorem dX8_leastMargins_1 : decode cX8_leastMargins 1 = .ok (.iload_n 1, 1) := by decide +kernel
theorem dX8_leastMargins_2 : decode cX8_leastMargins 2 = .ok (.invokevirtual 176, 3) := by decide +kernel
theorem dX8_leastMargins_5 : decode cX8_leastMargins 5 = .ok (.ireturn, 1) := by decide +kernel
theorem dX8_leastMarginsBySets_0 : decode cX8_leastMarginsBySets 0 = .ok (.aload_n 0, 1) := by decide +kernel
theorem dX8_leastMarginsBySets_1 : decode cX8_leastMarginsBySets 1 = .ok (.iload_n 1, 1) := by decide +kernel
theorem dX8_leastMarginsBySets_2 : decode cX8_leastMarginsBySets 2 = .ok (.invokevirtual 176, 3) := by decide +kernel
theorem dX8_leastMarginsBySets_5 : decode cX8_leastMarginsBySets 5 = .ok (.ireturn, 1) := by decide +kernel
theorem dX8_takerOf_0 : decode cX8_takerOf 0 = .ok (.aload_n 0, 1) := by decide +kernel
theorem dX8_takerOf_1 : decode cX8_takerOf 1 = .ok (.aload_n 0, 1) := by decide +kernel
theorem dX8_takerOf_2 : decode cX8_takerOf 2 = .ok (.iload_n 1, 1) := by decide +kernel
theorem dX8_takerOf_3 : decode cX8_takerOf 3 = .ok (.invokevirtual 107, 3) := by decide +kernel
theorem dX8_takerOf_6 : decode cX8_takerOf 6 = .ok (.ifCond .eq 11, 3) := by decide +kernel
theorem dX8_takerOf_9 : decode cX8_takerOf 9 = .ok (.aload_n 0, 1) := by decide +kernel
theorem dX8_takerOf_10 : decode cX8_takerOf 10 = .ok (.iload_n 2, 1) := by decide +kernel
theorem dX8_takerOf_11 : decode cX8_takerOf 11 = .ok (.invokevirtual 110, 3) := by decide +kernel
theorem dX8_takerOf_14 : decode cX8_takerOf 14 = .ok (.ifCond .ne 7, 3) := by decide +kernel
theorem dX8_takerOf_17 : decode cX8_takerOf 17 = .ok (.iconst 1, 1) := by decide +kernel
theorem dX8_takerOf_18 : decode cX8_takerOf 18 = .ok (.goto 18, 3) := by decide +kernel
theorem dX8_takerOf_21 : decode cX8_takerOf 21 = .ok (.aload_n 0, 1) := by decide +kernel
theorem dX8_takerOf_22 : decode cX8_takerOf 22 = .ok (.iload_n 1, 1) := by decide +kernel
theorem dX8_takerOf_23 : decode cX8_takerOf 23 = .ok (.iconst 2, 1) := by decide +kernel
theorem dX8_takerOf_24 : decode cX8_takerOf 24 = .ok (.invokevirtual 72, 3) := by decide +kernel
theorem dX8_takerOf_27 : decode cX8_takerOf 27 = .ok (.iconst 1, 1) := by decide +kernel
theorem dX8_takerOf_28 : decode cX8_takerOf 28 = .ok (.if_icmp .ne 7, 3) := by decide +kernel
theorem dX8_takerOf_31 : decode cX8_takerOf 31 = .ok (.iconst 2, 1) := by decide +kernel
theorem dX8_takerOf_32 : decode cX8_takerOf 32 = .ok (.goto 4, 3) := by decide +kernel
theorem dX8_takerOf_35 : decode cX8_takerOf 35 = .ok (.iconst 0, 1) := by decide +kernel
theorem dX8_takerOf_36 : decode cX8_takerOf 36 = .ok (.invokevirtual 89, 3) := by decide +kernel
theorem dX8_takerOf_39 : decode cX8_takerOf 39 = .ok (.ifCond .eq 5, 3) := by decide +kernel
theorem dX8_takerOf_42 : decode cX8_takerOf 42 = .ok (.iconst 0, 1) := by decide +kernel
theorem dX8_takerOf_43 : decode cX8_takerOf 43 = .ok (.ireturn, 1) := by decide +kernel
theorem dX8_takerOf_44 : decode cX8_takerOf 44 = .ok (.aload_n 0, 1) := by decide +kernel
theorem dX8_takerOf_45 : decode cX8_takerOf 45 = .ok (.iload_n 1, 1) := by decide +kernel
theorem dX8_takerOf_46 : decode cX8_takerOf 46 = .ok (.invokevirtual 144, 3) := by decide +kernel
theorem dX8_takerOf_49 : decode cX8_takerOf 49 = .ok (.istore_n 3, 1) := by decide +kernel
theorem dX8_takerOf_50 : decode cX8_takerOf 50 = .ok (.aload_n 0, 1) := by decide +kernel
theorem dX8_takerOf_51 : decode cX8_takerOf 51 = .ok (.iload_n 3, 1) := by decide +kernel
theorem dX8_takerOf_52 : decode cX8_takerOf 52 = .ok (.ifCond .ge 7, 3) := by decide +kernel
theorem dX8_takerOf_55 : decode cX8_takerOf 55 = .ok (.iconst 3, 1) := by decide +kernel
theorem dX8_takerOf_56 : decode cX8_takerOf 56 = .ok (.goto 17, 3) := by decide +kernel
theorem dX8_takerOf_59 : decode cX8_takerOf 59 = .ok (.aload_n 0, 1) := by decide +kernel
theorem dX8_takerOf_60 : decode cX8_takerOf 60 = .ok (.iload_n 1, 1) := by decide +kernel
theorem dX8_takerOf_61 : decode cX8_takerOf 61 = .ok (.iload_n 2, 1) := by decide +kernel
theorem dX8_takerOf_62 : decode cX8_takerOf 62 = .ok (.invokevirtual 79, 3) := by decide +kernel
theorem dX8_takerOf_65 : decode cX8_takerOf 65 = .ok (.ifCond .ne 7, 3) := by decide +kernel
theorem dX8_takerOf_68 : decode cX8_takerOf 68 = .ok (.iconst 4, 1) := by decide +kernel
theorem dX8_takerOf_69 : decode cX8_takerOf 69 = .ok (.goto 4, 3) := by decide +kernel
theorem dX8_takerOf_72 : decode cX8_takerOf 72 = .ok (.iconst 0, 1) := by decide +kernel
theorem dX8_takerOf_73 : decode cX8_takerOf 73 = .ok (.invokevirtual 89, 3) := by decide +kernel
theorem dX8_takerOf_76 : decode cX8_takerOf 76 = .ok (.ifCond .eq 7, 3) := by decide +kernel
theorem dX8_takerOf_79 : decode cX8_takerOf 79 = .ok (.iconst 0, 1) := by decide +kernel
theorem dX8_takerOf_80 : decode cX8_takerOf 80 = .ok (.goto 9, 3) := by decide +kernel
theorem dX8_takerOf_83 : decode cX8_takerOf 83 = .ok (.aload_n 0, 1) := by decide +kernel
theorem dX8_takerOf_84 : decode cX8_takerOf 84 = .ok (.getfield 39, 3) := by decide +kernel
theorem dX8_takerOf_87 : decode cX8_takerOf 87 = .ok (.iload_n 2, 1) := by decide +kernel
theorem dX8_takerOf_88 : decode cX8_takerOf 88 = .ok (.iaload, 1) := by decide +kernel
theorem dX8_takerOf_89 : decode cX8_takerOf 89 = .ok (.ireturn, 1) := by decide +kernel
theorem dX8_traderByMoney_0 : decode cX8_traderByMoney 0 = .ok (.iconst 0, 1) := by decide +kernel
theorem dX8_traderByMoney_1 : decode cX8_traderByMoney 1 = .ok (.istore_n 2, 1) := by decide +kernel
theorem dX8_traderByMoney_2 : decode cX8_traderByMoney 2 = .ok (.iload_n 2, 1) := by decide +kernel
theorem dX8_traderByMoney_3 : decode cX8_traderByMoney 3 = .ok (.aload_n 0, 1) := by decide +kernel
theorem dX8_traderByMoney_4 : decode cX8_traderByMoney 4 = .ok (.getfield 7, 3) := by decide +kernel
theorem dX8_traderByMoney_7 : decode cX8_traderByMoney 7 = .ok (.iconst 1, 1) := by decide +kernel
theorem dX8_traderByMoney_8 : decode cX8_traderByMoney 8 = .ok (.iaload, 1) := by decide +kernel
theorem dX8_traderByMoney_9 : decode cX8_traderByMoney 9 = .ok (.if_icmp .ge 92, 3) := by decide +kernel
theorem dX8_traderByMoney_12 : decode cX8_traderByMoney 12 = .ok (.iconst 0, 1) := by decide +kernel
theorem dX8_traderByMoney_13 : decode cX8_traderByMoney 13 = .ok (.istore_n 3, 1) := by decide +kernel
theorem dX8_traderByMoney_14 : decode cX8_traderByMoney 14 = .ok (.iconst 0, 1) := by decide +kernel
theorem dX8_traderByMoney_15 : decode cX8_traderByMoney 15 = .ok (.istore 4, 2) := by decide +kernel
theorem dX8_traderByMoney_17 : decode cX8_traderByMoney 17 = .ok (.iload 4, 2) := by decide +kernel
theorem dX8_traderByMoney_19 : decode cX8_traderByMoney 19 = .ok (.aload_n 0, 1) := by decide +kernel
theorem dX8_traderByMoney_20 : decode cX8_traderByMoney 20 = .ok (.getfield 7, 3) := by decide +kernel
theorem dX8_traderByMoney_23 : decode cX8_traderByMoney 23 = .ok (.iconst 1, 1) := by decide +kernel
theorem dX8_traderByMoney_24 : decode cX8_traderByMoney 24 = .ok (.iaload, 1) := by decide +kernel
theorem dX8_traderByMoney_25 : decode cX8_traderByMoney 25 = .ok (.if_icmp .ge 55, 3) := by decide +kernel
theorem dX8_traderByMoney_28 : decode cX8_traderByMoney 28 = .ok (.iload_n 3, 1) := by decide +kernel
theorem dX8_traderByMoney_29 : decode cX8_traderByMoney 29 = .ok (.aload_n 0, 1) := by decide +kernel
theorem dX8_traderByMoney_30 : decode cX8_traderByMoney 30 = .ok (.iload 4, 2) := by decide +kernel
theorem dX8_traderByMoney_32 : decode cX8_traderByMoney 32 = .ok (.iconst 0, 1) := by decide +kernel
theorem dX8_traderByMoney_33 : decode cX8_traderByMoney 33 = .ok (.invokevirtual 72, 3) := by decide +kernel
theorem dX8_traderByMoney_36 : decode cX8_traderByMoney 36 = .ok (.aload_n 0, 1) := by decide +kernel
theorem dX8_traderByMoney_37 : decode cX8_traderByMoney 37 = .ok (.iload_n 2, 1) := by decide +kernel
theorem dX8_traderByMoney_38 : decode cX8_traderByMoney 38 = .ok (.iconst 0, 1) := by decide +kernel
theorem dX8_traderByMoney_39 : decode cX8_traderByMoney 39 = .ok (.invokevirtual 72, 3) := by decide +kernel
theorem dX8_traderByMoney_42 : decode cX8_traderByMoney 42 = .ok (.if_icmp .gt 25, 3) := by decide +kernel
theorem dX8_traderByMoney_45 : decode cX8_traderByMoney 45 = .ok (.aload_n 0, 1) := by decide +kernel
theorem dX8_traderByMoney_46 : decode cX8_traderByMoney 46 = .ok (.iload 4, 2) := by decide +kernel
theorem dX8_traderByMoney_48 : decode cX8_traderByMoney 48 = .ok (.iconst 0, 1) := by decide +kernel
theorem dX8_traderByMoney_49 : decode cX8_traderByMoney 49 = .ok (.invokevirtual 72, 3) := by decide +kernel
theorem dX8_traderByMoney_52 : decode cX8_traderByMoney 52 = .ok (.aload_n 0, 1) := by decide +kernel
theorem dX8_traderByMoney_53 : decode cX8_traderByMoney 53 = .ok (.iload_n 2, 1) := by decide +kernel
theorem dX8_traderByMoney_54 : decode cX8_traderByMoney 54 = .ok (.iconst 0, 1) := by decide +kernel
theorem dX8_traderByMoney_55 : decode cX8_traderByMoney 55 = .ok (.invokevirtual 72, 3) := by decide +kernel
theorem dX8_traderByMoney_58 : decode cX8_traderByMoney 58 = .ok (.if_icmp .ne 13, 3) := by decide +kernel
theorem dX8_traderByMoney_61 : decode cX8_traderByMoney 61 = .ok (.iload 4, 2) := by decide +kernel
theorem dX8_traderByMoney_63 : decode cX8_traderByMoney 63 = .ok (.iload_n 2, 1) := by decide +kernel
theorem dX8_traderByMoney_64 : decode cX8_traderByMoney 64 = .ok (.if_icmp .ge 7, 3) := by decide +kernel
theorem dX8_traderByMoney_67 : decode cX8_traderByMoney 67 = .ok (.iconst 1, 1) := by decide +kernel
theorem dX8_traderByMoney_68 : decode cX8_traderByMoney 68 = .ok (.goto 4, 3) := by decide +kernel
theorem dX8_traderByMoney_71 : decode cX8_traderByMoney 71 = .ok (.iconst 0, 1) := by decide +kernel
theorem dX8_traderByMoney_72 : decode cX8_traderByMoney 72 = .ok (.iadd, 1) := by decide +kernel
theorem dX8_traderByMoney_73 : decode cX8_traderByMoney 73 = .ok (.istore_n 3, 1) := by decide +kernel
theorem dX8_traderByMoney_74 : decode cX8_traderByMoney 74 = .ok (.iinc 4 1, 3) := by decide +kernel
theorem dX8_traderByMoney_77 : decode cX8_traderByMoney 77 = .ok (.goto (-60), 3) := by decide +kernel
theorem dX8_traderByMoney_80 : decode cX8_traderByMoney 80 = .ok (.iload_n 3, 1) := by decide +kernel
theorem dX8_traderByMoney_81 : decode cX8_traderByMoney 81 = .ok (.iload_n 1, 1) := by decide +kernel
theorem dX8_traderByMoney_82 : decode cX8_traderByMoney 82 = .ok (.if_icmp .eq 6, 3) := by decide +kernel
theorem dX8_traderByMoney_85 : decode cX8_traderByMoney 85 = .ok (.goto 10, 3) := by decide +kernel
theorem dX8_traderByMoney_88 : decode cX8_traderByMoney 88 = .ok (.aload_n 0, 1) := by decide +kernel
theorem dX8_traderByMoney_89 : decode cX8_traderByMoney 89 = .ok (.iconst 0, 1) := by decide +kernel
theorem dX8_traderByMoney_90 : decode cX8_traderByMoney 90 = .ok (.putfield 54, 3) := by decide +kernel
theorem dX8_traderByMoney_93 : decode cX8_traderByMoney 93 = .ok (.iload_n 2, 1) := by decide +kernel
theorem dX8_traderByMoney_94 : decode cX8_traderByMoney 94 = .ok (.ireturn, 1) := by decide +kernel
theorem dX8_traderByMoney_95 : decode cX8_traderByMoney 95 = .ok (.iinc 2 1, 3) := by decide +kernel
theorem dX8_traderByMoney_98 : decode cX8_traderByMoney 98 = .ok (.goto (-96), 3) := by decide +kernel
theorem dX8_traderByMoney_101 : decode cX8_traderByMoney 101 = .ok (.aload_n 0, 1) := by decide +kernel
theorem dX8_traderByMoney_102 : decode cX8_traderByMoney 102 = .ok (.iconst 1, 1) := by decide +kernel
theorem dX8_traderByMoney_103 : decode cX8_traderByMoney 103 = .ok (.putfield 54, 3) := by decide +kernel
theorem dX8_traderByMoney_106 : decode cX8_traderByMoney 106 = .ok (.iconst 0, 1) := by decide +kernel
theorem dX8_traderByMoney_107 : decode cX8_traderByMoney 107 = .ok (.ireturn, 1) := by decide +kernel
theorem dX8_fund_0 : decode cX8_fund 0 = .ok (.aload_n 0, 1) := by decide +kernel
theorem dX8_fund_1 : decode cX8_fund 1 = .ok (.iconst 0, 1) := by decide +kernel
theorem dX8_fund_2 : decode cX8_fund 2 = .ok (.putfield 54, 3) := by decide +kernel
theorem dX8_fund_5 : decode cX8_fund 5 = .ok (.aload_n 0, 1) := by decide +kernel
theorem dX8_fund_6 : decode cX8_fund 6 = .ok (.getfield 7, 3) := by decide +kernel
theorem dX8_fund_9 : decode cX8_fund 9 = .ok (.iconst 4, 1) := by decide +kernel
theorem dX8_fund_10 : decode cX8_fund 10 = .ok (.iaload, 1) := by decide +kernel
theorem dX8_fund_11 : decode cX8_fund 11 = .ok (.ireturn, 1) := by decide +kernel
theorem dX8_writtenOff_0 : decode cX8_writtenOff 0 = .ok (.aload_n 0, 1) := by decide +kernel
theorem dX8_writtenOff_1 : decode cX8_writtenOff 1 = .ok (.iconst 0, 1) := by decide +kernel
theorem dX8_writtenOff_2 : decode cX8_writtenOff 2 = .ok (.putfield 54, 3) := by decide +kernel
theorem dX8_writtenOff_5 : decode cX8_writtenOff 5 = .ok (.aload_n 0, 1) := by decide +kernel
theorem dX8_writtenOff_6 : decode cX8_writtenOff 6 = .ok (.getfield 7, 3) := by decide +kernel
theorem dX8_writtenOff_9 : decode cX8_writtenOff 9 = .ok (.iconst 5, 1) := by decide +kernel
theorem dX8_writtenOff_10 : decode cX8_writtenOff 10 = .ok (.iaload, 1) := by decide +kernel
theorem dX8_writtenOff_11 : decode cX8_writtenOff 11 = .ok (.ireturn, 1) := by decide +kernel
theorem dX8_broughtIn_0 : decode cX8_broughtIn 0 = .ok (.aload_n 0, 1) := by decide +kernel
theorem dX8_broughtIn_1 : decode cX8_broughtIn 1 = .ok (.iconst 0, 1) := by decide +kernel
theorem dX8_broughtIn_2 : decode cX8_broughtIn 2 = .ok (.putfield 54, 3) := by decide +kernel
theorem dX8_broughtIn_5 : decode cX8_broughtIn 5 = .ok (.aload_n 0, 1) := by decide +kernel
theorem dX8_broughtIn_6 : decode cX8_broughtIn 6 = .ok (.getfield 7, 3) := by decide +kernel
theorem dX8_broughtIn_9 : decode cX8_broughtIn 9 = .ok (.sipush 136, 3) := by decide +kernel
theorem dX8_broughtIn_12 : decode cX8_broughtIn 12 = .ok (.iaload, 1) := by decide +kernel
theorem dX8_broughtIn_13 : decode cX8_broughtIn 13 = .ok (.i2l, 1) := by decide +kernel
theorem dX8_broughtIn_14 : decode cX8_broughtIn 14 = .ok (.lreturn, 1) := by decide +kernel
theorem dX8_withdrawn_0 : decode cX8_withdrawn 0 = .ok (.aload_n 0, 1) := by decide +kernel
theorem dX8_withdrawn_1 : decode cX8_withdrawn 1 = .ok (.iconst 0, 1) := by decide +kernel
theorem dX8_withdrawn_2 : decode cX8_withdrawn 2 = .ok (.putfield 54, 3) := by decide +kernel
theorem dX8_withdrawn_5 : decode cX8_withdrawn 5 = .ok (.aload_n 0, 1) := by decide +kernel
theorem dX8_withdrawn_6 : decode cX8_withdrawn 6 = .ok (.getfield 7, 3) := by decide +kernel
theorem dX8_withdrawn_9 : decode cX8_withdrawn 9 = .ok (.sipush 137, 3) := by decide +kernel
theorem dX8_withdrawn_12 : decode cX8_withdrawn 12 = .ok (.iaload, 1) := by decide +kernel
theorem dX8_withdrawn_13 : decode cX8_withdrawn 13 = .ok (.i2l, 1) := by decide +kernel
theorem dX8_withdrawn_14 : decode cX8_withdrawn 14 = .ok (.lreturn, 1) := by decide +kernel
theorem dX8_dayCount_0 : decode cX8_dayCount 0 = .ok (.aload_n 0, 1) := by decide +kernel
theorem dX8_dayCount_1 : decode cX8_dayCount 1 = .ok (.iconst 0, 1) := by decide +kernel
theorem dX8_dayCount_2 : decode cX8_dayCount 2 = .ok (.putfield 54, 3) := by decide +kernel
theorem dX8_dayCount_5 : decode cX8_dayCount 5 = .ok (.aload_n 0, 1) := by decide +kernel
theorem dX8_dayCount_6 : decode cX8_dayCount 6 = .ok (.getfield 7, 3) := by decide +kernel
theorem dX8_dayCount_9 : decode cX8_dayCount 9 = .ok (.iconst 3, 1) := by decide +kernel
theorem dX8_dayCount_10 : decode cX8_dayCount 10 = .ok (.iaload, 1) := by decide +kernel
theorem dX8_dayCount_11 : decode cX8_dayCount 11 = .ok (.ireturn, 1) := by decide +kernel
theorem dX8_meanMargin_0 : decode cX8_meanMargin 0 = .ok (.aload_n 0, 1) := by decide +kernel
theorem dX8_meanMargin_1 : decode cX8_meanMargin 1 = .ok (.aload_n 0, 1) := by decide +kernel
theorem dX8_meanMargin_2 : decode cX8_meanMargin 2 = .ok (.getfield 7, 3) := by decide +kernel
theorem dX8_meanMargin_5 : decode cX8_meanMargin 5 = .ok (.iconst 1, 1) := by decide +kernel
theorem dX8_meanMargin_6 : decode cX8_meanMargin 6 = .ok (.iaload, 1) := by decide +kernel
theorem dX8_meanMargin_7 : decode cX8_meanMargin 7 = .ok (.ifCond .ne 7, 3) := by decide +kernel
theorem dX8_meanMargin_10 : decode cX8_meanMargin 10 = .ok (.iconst 1, 1) := by decide +kernel
theorem dX8_meanMargin_11 : decode cX8_meanMargin 11 = .ok (.goto 4, 3) := by decide +kernel
theorem dX8_meanMargin_14 : decode cX8_meanMargin 14 = .ok (.iconst 0, 1) := by decide +kernel
theorem dX8_meanMargin_15 : decode cX8_meanMargin 15 = .ok (.invokevirtual 89, 3) := by decide +kernel
theorem dX8_meanMargin_18 : decode cX8_meanMargin 18 = .ok (.ifCond .eq 5, 3) := by decide +kernel
theorem dX8_meanMargin_21 : decode cX8_meanMargin 21 = .ok (.dconst 0, 1) := by decide +kernel
theorem dX8_meanMargin_22 : decode cX8_meanMargin 22 = .ok (.dreturn, 1) := by decide +kernel
theorem dX8_meanMargin_23 : decode cX8_meanMargin 23 = .ok (.iconst 0, 1) := by decide +kernel
theorem dX8_meanMargin_24 : decode cX8_meanMargin 24 = .ok (.istore_n 1, 1) := by decide +kernel
theorem dX8_meanMargin_25 : decode cX8_meanMargin 25 = .ok (.iconst 0, 1) := by decide +kernel
theorem dX8_meanMargin_26 : decode cX8_meanMargin 26 = .ok (.istore_n 2, 1) := by decide +kernel
theorem dX8_meanMargin_27 : decode cX8_meanMargin 27 = .ok (.iload_n 2, 1) := by decide +kernel
theorem dX8_meanMargin_28 : decode cX8_meanMargin 28 = .ok (.aload_n 0, 1) := by decide +kernel
theorem dX8_meanMargin_29 : decode cX8_meanMargin 29 = .ok (.getfield 7, 3) := by decide +kernel
theorem dX8_meanMargin_32 : decode cX8_meanMargin 32 = .ok (.iconst 1, 1) := by decide +kernel
theorem dX8_meanMargin_33 : decode cX8_meanMargin 33 = .ok (.iaload, 1) := by decide +kernel
theorem dX8_meanMargin_34 : decode cX8_meanMargin 34 = .ok (.if_icmp .ge 17, 3) := by decide +kernel
theorem dX8_meanMargin_37 : decode cX8_meanMargin 37 = .ok (.iload_n 1, 1) := by decide +kernel
theorem dX8_meanMargin_38 : decode cX8_meanMargin 38 = .ok (.aload_n 0, 1) := by decide +kernel
theorem dX8_meanMargin_39 : decode cX8_meanMargin 39 = .ok (.iload_n 2, 1) := by decide +kernel
theorem dX8_meanMargin_40 : decode cX8_meanMargin 40 = .ok (.invokevirtual 104, 3) := by decide +kernel
theorem dX8_meanMargin_43 : decode cX8_meanMargin 43 = .ok (.iadd, 1) := by decide +kernel
theorem dX8_meanMargin_44 : decode cX8_meanMargin 44 = .ok (.istore_n 1, 1) := by decide +kernel
theorem dX8_meanMargin_45 : decode cX8_meanMargin 45 = .ok (.iinc 2 1, 3) := by decide +kernel
theorem dX8_meanMargin_48 : decode cX8_meanMargin 48 = .ok (.goto (-21), 3) := by decide +kernel
theorem dX8_meanMargin_51 : decode cX8_meanMargin 51 = .ok (.iload_n 1, 1) := by decide +kernel
theorem dX8_meanMargin_52 : decode cX8_meanMargin 52 = .ok (.i2d, 1) := by decide +kernel
theorem dX8_meanMargin_53 : decode cX8_meanMargin 53 = .ok (.aload_n 0, 1) := by decide +kernel
theorem dX8_meanMargin_54 : decode cX8_meanMargin 54 = .ok (.getfield 7, 3) := by decide +kernel
theorem dX8_meanMargin_57 : decode cX8_meanMargin 57 = .ok (.iconst 1, 1) := by decide +kernel
theorem dX8_meanMargin_58 : decode cX8_meanMargin 58 = .ok (.iaload, 1) := by decide +kernel
theorem dX8_meanMargin_59 : decode cX8_meanMargin 59 = .ok (.i2d, 1) := by decide +kernel
theorem dX8_meanMargin_60 : decode cX8_meanMargin 60 = .ok (.ddiv, 1) := by decide +kernel
theorem dX8_meanMargin_61 : decode cX8_meanMargin 61 = .ok (.dreturn, 1) := by decide +kernel
theorem dX8_soundShare_0 : decode cX8_soundShare 0 = .ok (.aload_n 0, 1) := by decide +kernel
theorem dX8_soundShare_1 : decode cX8_soundShare 1 = .ok (.aload_n 0, 1) := by decide +kernel
theorem dX8_soundShare_2 : decode cX8_soundShare 2 = .ok (.getfield 7, 3) := by decide +kernel
theorem dX8_soundShare_5 : decode cX8_soundShare 5 = .ok (.iconst 1, 1) := by decide +kernel
theorem dX8_soundShare_6 : decode cX8_soundShare 6 = .ok (.iaload, 1) := by decide +kernel
theorem dX8_soundShare_7 : decode cX8_soundShare 7 = .ok (.ifCond .ne 7, 3) := by decide +kernel
theorem dX8_soundShare_10 : decode cX8_soundShare 10 = .ok (.iconst 1, 1) := by decide +kernel
theorem dX8_soundShare_11 : decode cX8_soundShare 11 = .ok (.goto 4, 3) := by decide +kernel
theorem dX8_soundShare_14 : decode cX8_soundShare 14 = .ok (.iconst 0, 1) := by decide +kernel
theorem dX8_soundShare_15 : decode cX8_soundShare 15 = .ok (.invokevirtual 89, 3) := by decide +kernel
theorem dX8_soundShare_18 : decode cX8_soundShare 18 = .ok (.ifCond .eq 5, 3) := by decide +kernel
theorem dX8_soundShare_21 : decode cX8_soundShare 21 = .ok (.fconst 0, 1) := by decide +kernel
theorem dX8_soundShare_22 : decode cX8_soundShare 22 = .ok (.freturn, 1) := by decide +kernel
theorem dX8_soundShare_23 : decode cX8_soundShare 23 = .ok (.iconst 0, 1) := by decide +kernel
theorem dX8_soundShare_24 : decode cX8_soundShare 24 = .ok (.istore_n 1, 1) := by decide +kernel
theorem dX8_soundShare_25 : decode cX8_soundShare 25 = .ok (.iconst 0, 1) := by decide +kernel
theorem dX8_soundShare_26 : decode cX8_soundShare 26 = .ok (.istore_n 2, 1) := by decide +kernel
theorem dX8_soundShare_27 : decode cX8_soundShare 27 = .ok (.iload_n 2, 1) := by decide +kernel
theorem dX8_soundShare_28 : decode cX8_soundShare 28 = .ok (.aload_n 0, 1) := by decide +kernel
theorem dX8_soundShare_29 : decode cX8_soundShare 29 = .ok (.getfield 7, 3) := by decide +kernel
theorem dX8_soundShare_32 : decode cX8_soundShare 32 = .ok (.iconst 1, 1) := by decide +kernel
theorem dX8_soundShare_33 : decode cX8_soundShare 33 = .ok (.iaload, 1) := by decide +kernel
theorem dX8_soundShare_34 : decode cX8_soundShare 34 = .ok (.if_icmp .ge 25, 3) := by decide +kernel
theorem dX8_soundShare_37 : decode cX8_soundShare 37 = .ok (.iload_n 1, 1) := by decide +kernel
theorem dX8_soundShare_38 : decode cX8_soundShare 38 = .ok (.aload_n 0, 1) := by decide +kernel
theorem dX8_soundShare_39 : decode cX8_soundShare 39 = .ok (.iload_n 2, 1) := by decide +kernel
theorem dX8_soundShare_40 : decode cX8_soundShare 40 = .ok (.invokevirtual 113, 3) := by decide +kernel
theorem dX8_soundShare_43 : decode cX8_soundShare 43 = .ok (.ifCond .eq 7, 3) := by decide +kernel
theorem dX8_soundShare_46 : decode cX8_soundShare 46 = .ok (.iconst 1, 1) := by decide +kernel
theorem dX8_soundShare_47 : decode cX8_soundShare 47 = .ok (.goto 4, 3) := by decide +kernel
theorem dX8_soundShare_50 : decode cX8_soundShare 50 = .ok (.iconst 0, 1) := by decide +kernel
theorem dX8_soundShare_51 : decode cX8_soundShare 51 = .ok (.iadd, 1) := by decide +kernel
theorem dX8_soundShare_52 : decode cX8_soundShare 52 = .ok (.istore_n 1, 1) := by decide +kernel
theorem dX8_soundShare_53 : decode cX8_soundShare 53 = .ok (.iinc 2 1, 3) := by decide +kernel
theorem dX8_soundShare_56 : decode cX8_soundShare 56 = .ok (.goto (-29), 3) := by decide +kernel
theorem dX8_soundShare_59 : decode cX8_soundShare 59 = .ok (.iload_n 1, 1) := by decide +kernel
theorem dX8_soundShare_60 : decode cX8_soundShare 60 = .ok (.i2f, 1) := by decide +kernel
theorem dX8_soundShare_61 : decode cX8_soundShare 61 = .ok (.aload_n 0, 1) := by decide +kernel
theorem dX8_soundShare_62 : decode cX8_soundShare 62 = .ok (.getfield 7, 3) := by decide +kernel
theorem dX8_soundShare_65 : decode cX8_soundShare 65 = .ok (.iconst 1, 1) := by decide +kernel
theorem dX8_soundShare_66 : decode cX8_soundShare 66 = .ok (.iaload, 1) := by decide +kernel
theorem dX8_soundShare_67 : decode cX8_soundShare 67 = .ok (.i2f, 1) := by decide +kernel
theorem dX8_soundShare_68 : decode cX8_soundShare 68 = .ok (.fdiv, 1) := by decide +kernel
theorem dX8_soundShare_69 : decode cX8_soundShare 69 = .ok (.freturn, 1) := by decide +kernel
theorem dX8_writes_0 : decode cX8_writes 0 = .ok (.aload_n 0, 1) := by decide +kernel
theorem dX8_writes_1 : decode cX8_writes 1 = .ok (.getfield 32, 3) := by decide +kernel
theorem dX8_writes_4 : decode cX8_writes 4 = .ok (.aload_n 0, 1) := by decide +kernel
theorem dX8_writes_5 : decode cX8_writes 5 = .ok (.getfield 179, 3) := by decide +kernel
theorem dX8_writes_8 : decode cX8_writes 8 = .ok (.iload_n 1, 1) := by decide +kernel
theorem dX8_writes_9 : decode cX8_writes 9 = .ok (.i2c, 1) := by decide +kernel
theorem dX8_writes_10 : decode cX8_writes 10 = .ok (.castore, 1) := by decide +kernel
theorem dX8_writes_11 : decode cX8_writes 11 = .ok (.aload_n 0, 1) := by decide +kernel
theorem dX8_writes_12 : decode cX8_writes 12 = .ok (.dup, 1) := by decide +kernel
theorem dX8_writes_13 : decode cX8_writes 13 = .ok (.getfield 179, 3) := by decide +kernel
theorem dX8_writes_16 : decode cX8_writes 16 = .ok (.iconst 1, 1) := by decide +kernel
theorem dX8_writes_17 : decode cX8_writes 17 = .ok (.iadd, 1) := by decide +kernel
theorem dX8_writes_18 : decode cX8_writes 18 = .ok (.putfield 179, 3) := by decide +kernel
theorem dX8_writes_21 : decode cX8_writes 21 = .ok (.return_, 1) := by decide +kernel
theorem dX8_writesNumber_0 : decode cX8_writesNumber 0 = .ok (.iload_n 1, 1) := by decide +kernel
theorem dX8_writesNumber_1 : decode cX8_writesNumber 1 = .ok (.ifCond .ge 16, 3) := by decide +kernel
theorem dX8_writesNumber_4 : decode cX8_writesNumber 4 = .ok (.aload_n 0, 1) := by decide +kernel
theorem dX8_writesNumber_5 : decode cX8_writesNumber 5 = .ok (.bipush 45, 2) := by decide +kernel
theorem dX8_writesNumber_7 : decode cX8_writesNumber 7 = .ok (.invokevirtual 182, 3) := by decide +kernel
theorem dX8_writesNumber_10 : decode cX8_writesNumber 10 = .ok (.aload_n 0, 1) := by decide +kernel
theorem dX8_writesNumber_11 : decode cX8_writesNumber 11 = .ok (.iload_n 1, 1) := by decide +kernel
theorem dX8_writesNumber_12 : decode cX8_writesNumber 12 = .ok (.ineg, 1) := by decide +kernel
theorem dX8_writesNumber_13 : decode cX8_writesNumber 13 = .ok (.invokevirtual 185, 3) := by decide +kernel
theorem dX8_writesNumber_16 : decode cX8_writesNumber 16 = .ok (.return_, 1) := by decide +kernel
theorem dX8_writesNumber_17 : decode cX8_writesNumber 17 = .ok (.iload_n 1, 1) := by decide +kernel
theorem dX8_writesNumber_18 : decode cX8_writesNumber 18 = .ok (.bipush 9, 2) := by decide +kernel
theorem dX8_writesNumber_20 : decode cX8_writesNumber 20 = .ok (.if_icmp .le 11, 3) := by decide +kernel
theorem dX8_writesNumber_23 : decode cX8_writesNumber 23 = .ok (.aload_n 0, 1) := by decide +kernel
theorem dX8_writesNumber_24 : decode cX8_writesNumber 24 = .ok (.iload_n 1, 1) := by decide +kernel
theorem dX8_writesNumber_25 : decode cX8_writesNumber 25 = .ok (.bipush 10, 2) := by decide +kernel
theorem dX8_writesNumber_27 : decode cX8_writesNumber 27 = .ok (.idiv, 1) := by decide +kernel
theorem dX8_writesNumber_28 : decode cX8_writesNumber 28 = .ok (.invokevirtual 185, 3) := by decide +kernel
theorem dX8_writesNumber_31 : decode cX8_writesNumber 31 = .ok (.aload_n 0, 1) := by decide +kernel
theorem dX8_writesNumber_32 : decode cX8_writesNumber 32 = .ok (.bipush 48, 2) := by decide +kernel
theorem dX8_writesNumber_34 : decode cX8_writesNumber 34 = .ok (.iload_n 1, 1) := by decide +kernel
theorem dX8_writesNumber_35 : decode cX8_writesNumber 35 = .ok (.bipush 10, 2) := by decide +kernel
theorem dX8_writesNumber_37 : decode cX8_writesNumber 37 = .ok (.irem, 1) := by decide +kernel
theorem dX8_writesNumber_38 : decode cX8_writesNumber 38 = .ok (.iadd, 1) := by decide +kernel
theorem dX8_writesNumber_39 : decode cX8_writesNumber 39 = .ok (.invokevirtual 182, 3) := by decide +kernel
theorem dX8_writesNumber_42 : decode cX8_writesNumber 42 = .ok (.return_, 1) := by decide +kernel
theorem dX8_writesBehind_0 : decode cX8_writesBehind 0 = .ok (.aload_n 0, 1) := by decide +kernel
theorem dX8_writesBehind_1 : decode cX8_writesBehind 1 = .ok (.iload_n 1, 1) := by decide +kernel
theorem dX8_writesBehind_2 : decode cX8_writesBehind 2 = .ok (.invokevirtual 182, 3) := by decide +kernel
theorem dX8_writesBehind_5 : decode cX8_writesBehind 5 = .ok (.aload_n 0, 1) := by decide +kernel
theorem dX8_writesBehind_6 : decode cX8_writesBehind 6 = .ok (.iload_n 2, 1) := by decide +kernel
theorem dX8_writesBehind_7 : decode cX8_writesBehind 7 = .ok (.invokevirtual 185, 3) := by decide +kernel
theorem dX8_writesBehind_10 : decode cX8_writesBehind 10 = .ok (.return_, 1) := by decide +kernel
theorem dX8_writeContract_0 : decode cX8_writeContract 0 = .ok (.aload_n 0, 1) := by decide +kernel
theorem dX8_writeContract_1 : decode cX8_writeContract 1 = .ok (.aload_n 0, 1) := by decide +kernel
theorem dX8_writeContract_2 : decode cX8_writeContract 2 = .ok (.iload_n 1, 1) := by decide +kernel
theorem dX8_writeContract_3 : decode cX8_writeContract 3 = .ok (.invokevirtual 166, 3) := by decide +kernel
theorem dX8_writeContract_6 : decode cX8_writeContract 6 = .ok (.ifCond .eq 7, 3) := by decide +kernel
theorem dX8_writeContract_9 : decode cX8_writeContract 9 = .ok (.iconst 0, 1) := by decide +kernel
theorem dX8_writeContract_10 : decode cX8_writeContract 10 = .ok (.goto 4, 3) := by decide +kernel
theorem dX8_writeContract_13 : decode cX8_writeContract 13 = .ok (.iconst 1, 1) := by decide +kernel
theorem dX8_writeContract_14 : decode cX8_writeContract 14 = .ok (.invokevirtual 89, 3) := by decide +kernel
theorem dX8_writeContract_17 : decode cX8_writeContract 17 = .ok (.ifCond .eq 5, 3) := by decide +kernel
theorem dX8_writeContract_20 : decode cX8_writeContract 20 = .ok (.iconst 0, 1) := by decide +kernel
theorem dX8_writeContract_21 : decode cX8_writeContract 21 = .ok (.ireturn, 1) := by decide +kernel
theorem dX8_writeContract_22 : decode cX8_writeContract 22 = .ok (.aload_n 0, 1) := by decide +kernel
theorem dX8_writeContract_23 : decode cX8_writeContract 23 = .ok (.iconst 0, 1) := by decide +kernel
theorem dX8_writeContract_24 : decode cX8_writeContract 24 = .ok (.putfield 179, 3) := by decide +kernel
theorem dX8_writeContract_27 : decode cX8_writeContract 27 = .ok (.aload_n 0, 1) := by decide +kernel
theorem dX8_writeContract_28 : decode cX8_writeContract 28 = .ok (.aload_n 0, 1) := by decide +kernel
theorem dX8_writeContract_29 : decode cX8_writeContract 29 = .ok (.iload_n 1, 1) := by decide +kernel
theorem dX8_writeContract_30 : decode cX8_writeContract 30 = .ok (.iconst 0, 1) := by decide +kernel
theorem dX8_writeContract_31 : decode cX8_writeContract 31 = .ok (.invokevirtual 76, 3) := by decide +kernel
theorem dX8_writeContract_34 : decode cX8_writeContract 34 = .ok (.invokevirtual 185, 3) := by decide +kernel
theorem dX8_writeContract_37 : decode cX8_writeContract 37 = .ok (.aload_n 0, 1) := by decide +kernel
theorem dX8_writeContract_38 : decode cX8_writeContract 38 = .ok (.bipush 60, 2) := by decide +kernel
theorem dX8_writeContract_40 : decode cX8_writeContract 40 = .ok (.aload_n 0, 1) := by decide +kernel
theorem dX8_writeContract_41 : decode cX8_writeContract 41 = .ok (.iload_n 1, 1) := by decide +kernel
theorem dX8_writeContract_42 : decode cX8_writeContract 42 = .ok (.iconst 1, 1) := by decide +kernel
theorem dX8_writeContract_43 : decode cX8_writeContract 43 = .ok (.invokevirtual 76, 3) := by decide +kernel
theorem dX8_writeContract_46 : decode cX8_writeContract 46 = .ok (.invokevirtual 188, 3) := by decide +kernel
theorem dX8_writeContract_49 : decode cX8_writeContract 49 = .ok (.aload_n 0, 1) := by decide +kernel
theorem dX8_writeContract_50 : decode cX8_writeContract 50 = .ok (.bipush 58, 2) := by decide +kernel
theorem dX8_writeContract_52 : decode cX8_writeContract 52 = .ok (.aload_n 0, 1) := by decide +kernel
theorem dX8_writeContract_53 : decode cX8_writeContract 53 = .ok (.iload_n 1, 1) := by decide +kernel
theorem dX8_writeContract_54 : decode cX8_writeContract 54 = .ok (.iconst 3, 1) := by decide +kernel
theorem dX8_writeContract_55 : decode cX8_writeContract 55 = .ok (.invokevirtual 76, 3) := by decide +kernel
theorem dX8_writeContract_58 : decode cX8_writeContract 58 = .ok (.invokevirtual 188, 3) := by decide +kernel
theorem dX8_writeContract_61 : decode cX8_writeContract 61 = .ok (.aload_n 0, 1) := by decide +kernel
theorem dX8_writeContract_62 : decode cX8_writeContract 62 = .ok (.bipush 104, 2) := by decide +kernel
theorem dX8_writeContract_64 : decode cX8_writeContract 64 = .ok (.aload_n 0, 1) := by decide +kernel
theorem dX8_writeContract_65 : decode cX8_writeContract 65 = .ok (.iload_n 1, 1) := by decide +kernel
theorem dX8_writeContract_66 : decode cX8_writeContract 66 = .ok (.iconst 2, 1) := by decide +kernel
theorem dX8_writeContract_67 : decode cX8_writeContract 67 = .ok (.invokevirtual 76, 3) := by decide +kernel
theorem dX8_writeContract_70 : decode cX8_writeContract 70 = .ok (.invokevirtual 188, 3) := by decide +kernel
theorem dX8_writeContract_73 : decode cX8_writeContract 73 = .ok (.aload_n 0, 1) := by decide +kernel
theorem dX8_writeContract_74 : decode cX8_writeContract 74 = .ok (.bipush 43, 2) := by decide +kernel
theorem dX8_writeContract_76 : decode cX8_writeContract 76 = .ok (.aload_n 0, 1) := by decide +kernel
theorem dX8_writeContract_77 : decode cX8_writeContract 77 = .ok (.iload_n 1, 1) := by decide +kernel
theorem dX8_writeContract_78 : decode cX8_writeContract 78 = .ok (.iconst 4, 1) := by decide +kernel
theorem dX8_writeContract_79 : decode cX8_writeContract 79 = .ok (.invokevirtual 76, 3) := by decide +kernel
theorem dX8_writeContract_82 : decode cX8_writeContract 82 = .ok (.aload_n 0, 1) := by decide +kernel
theorem dX8_writeContract_83 : decode cX8_writeContract 83 = .ok (.getfield 7, 3) := by decide +kernel
theorem dX8_writeContract_86 : decode cX8_writeContract 86 = .ok (.iconst 3, 1) := by decide +kernel
theorem dX8_writeContract_87 : decode cX8_writeContract 87 = .ok (.iaload, 1) := by decide +kernel
theorem dX8_writeContract_88 : decode cX8_writeContract 88 = .ok (.isub, 1) := by decide +kernel
theorem dX8_writeContract_89 : decode cX8_writeContract 89 = .ok (.invokevirtual 188, 3) := by decide +kernel
theorem dX8_writeContract_92 : decode cX8_writeContract 92 = .ok (.aload_n 0, 1) := by decide +kernel
theorem dX8_writeContract_93 : decode cX8_writeContract 93 = .ok (.getfield 179, 3) := by decide +kernel
theorem dX8_writeContract_96 : decode cX8_writeContract 96 = .ok (.ireturn, 1) := by decide +kernel
theorem dX8_writeTrader_0 : decode cX8_writeTrader 0 = .ok (.aload_n 0, 1) := by decide +kernel
theorem dX8_writeTrader_1 : decode cX8_writeTrader 1 = .ok (.aload_n 0, 1) := by decide +kernel
theorem dX8_writeTrader_2 : decode cX8_writeTrader 2 = .ok (.iload_n 1, 1) := by decide +kernel
theorem dX8_writeTrader_3 : decode cX8_writeTrader 3 = .ok (.invokevirtual 107, 3) := by decide +kernel
theorem dX8_writeTrader_6 : decode cX8_writeTrader 6 = .ok (.ifCond .eq 7, 3) := by decide +kernel
theorem dX8_writeTrader_9 : decode cX8_writeTrader 9 = .ok (.iconst 0, 1) := by decide +kernel
theorem dX8_writeTrader_10 : decode cX8_writeTrader 10 = .ok (.goto 4, 3) := by decide +kernel
theorem dX8_writeTrader_13 : decode cX8_writeTrader 13 = .ok (.iconst 1, 1) := by decide +kernel
theorem dX8_writeTrader_14 : decode cX8_writeTrader 14 = .ok (.invokevirtual 89, 3) := by decide +kernel
theorem dX8_writeTrader_17 : decode cX8_writeTrader 17 = .ok (.ifCond .eq 5, 3) := by decide +kernel
theorem dX8_writeTrader_20 : decode cX8_writeTrader 20 = .ok (.iconst 0, 1) := by decide +kernel
theorem dX8_writeTrader_21 : decode cX8_writeTrader 21 = .ok (.ireturn, 1) := by decide +kernel
theorem dX8_writeTrader_22 : decode cX8_writeTrader 22 = .ok (.aload_n 0, 1) := by decide +kernel
theorem dX8_writeTrader_23 : decode cX8_writeTrader 23 = .ok (.iconst 0, 1) := by decide +kernel
theorem dX8_writeTrader_24 : decode cX8_writeTrader 24 = .ok (.putfield 179, 3) := by decide +kernel
theorem dX8_writeTrader_27 : decode cX8_writeTrader 27 = .ok (.aload_n 0, 1) := by decide +kernel
theorem dX8_writeTrader_28 : decode cX8_writeTrader 28 = .ok (.aload_n 0, 1) := by decide +kernel
theorem dX8_writeTrader_29 : decode cX8_writeTrader 29 = .ok (.iload_n 1, 1) := by decide +kernel
theorem dX8_writeTrader_30 : decode cX8_writeTrader 30 = .ok (.iconst 0, 1) := by decide +kernel
theorem dX8_writeTrader_31 : decode cX8_writeTrader 31 = .ok (.invokevirtual 72, 3) := by decide +kernel
theorem dX8_writeTrader_34 : decode cX8_writeTrader 34 = .ok (.invokevirtual 185, 3) := by decide +kernel
theorem dX8_writeTrader_37 : decode cX8_writeTrader 37 = .ok (.aload_n 0, 1) := by decide +kernel
theorem dX8_writeTrader_38 : decode cX8_writeTrader 38 = .ok (.bipush 47, 2) := by decide +kernel
theorem dX8_writeTrader_40 : decode cX8_writeTrader 40 = .ok (.aload_n 0, 1) := by decide +kernel
theorem dX8_writeTrader_41 : decode cX8_writeTrader 41 = .ok (.iload_n 1, 1) := by decide +kernel
theorem dX8_writeTrader_42 : decode cX8_writeTrader 42 = .ok (.invokevirtual 104, 3) := by decide +kernel
theorem dX8_writeTrader_45 : decode cX8_writeTrader 45 = .ok (.invokevirtual 188, 3) := by decide +kernel
theorem dX8_writeTrader_48 : decode cX8_writeTrader 48 = .ok (.aload_n 0, 1) := by decide +kernel
theorem dX8_writeTrader_49 : decode cX8_writeTrader 49 = .ok (.iload_n 1, 1) := by decide +kernel
theorem dX8_writeTrader_50 : decode cX8_writeTrader 50 = .ok (.invokevirtual 113, 3) := by decide +kernel
theorem dX8_writeTrader_53 : decode cX8_writeTrader 53 = .ok (.ifCond .ne 24, 3) := by decide +kernel
theorem dX8_writeTrader_56 : decode cX8_writeTrader 56 = .ok (.aload_n 0, 1) := by decide +kernel
theorem dX8_writeTrader_57 : decode cX8_writeTrader 57 = .ok (.aload_n 0, 1) := by decide +kernel
theorem dX8_writeTrader_58 : decode cX8_writeTrader 58 = .ok (.iload_n 1, 1) := by decide +kernel
theorem dX8_writeTrader_59 : decode cX8_writeTrader 59 = .ok (.iconst 1, 1) := by decide +kernel
theorem dX8_writeTrader_60 : decode cX8_writeTrader 60 = .ok (.invokevirtual 72, 3) := by decide +kernel
theorem dX8_writeTrader_63 : decode cX8_writeTrader 63 = .ok (.iconst 1, 1) := by decide +kernel
theorem dX8_writeTrader_64 : decode cX8_writeTrader 64 = .ok (.if_icmp .ne 8, 3) := by decide +kernel
theorem dX8_writeTrader_67 : decode cX8_writeTrader 67 = .ok (.bipush 33, 2) := by decide +kernel
theorem dX8_writeTrader_69 : decode cX8_writeTrader 69 = .ok (.goto 5, 3) := by decide +kernel
theorem dX8_writeTrader_72 : decode cX8_writeTrader 72 = .ok (.bipush 120, 2) := by decide +kernel
theorem dX8_writeTrader_74 : decode cX8_writeTrader 74 = .ok (.invokevirtual 182, 3) := by decide +kernel
theorem dX8_writeTrader_77 : decode cX8_writeTrader 77 = .ok (.aload_n 0, 1) := by decide +kernel
theorem dX8_writeTrader_78 : decode cX8_writeTrader 78 = .ok (.getfield 179, 3) := by decide +kernel
theorem dX8_writeTrader_81 : decode cX8_writeTrader 81 = .ok (.ireturn, 1) := by decide +kernel
theorem dX8_lineAt_0 : decode cX8_lineAt 0 = .ok (.aload_n 0, 1) := by decide +kernel
theorem dX8_lineAt_1 : decode cX8_lineAt 1 = .ok (.iload_n 1, 1) := by decide +kernel
theorem dX8_lineAt_2 : decode cX8_lineAt 2 = .ok (.iconst 0, 1) := by decide +kernel
theorem dX8_lineAt_3 : decode cX8_lineAt 3 = .ok (.aload_n 0, 1) := by decide +kernel
theorem dX8_lineAt_4 : decode cX8_lineAt 4 = .ok (.getfield 179, 3) := by decide +kernel
theorem dX8_lineAt_7 : decode cX8_lineAt 7 = .ok (.iconst 1, 1) := by decide +kernel
theorem dX8_lineAt_8 : decode cX8_lineAt 8 = .ok (.isub, 1) := by decide +kernel
theorem dX8_lineAt_9 : decode cX8_lineAt 9 = .ok (.invokestatic 68, 3) := by decide +kernel
theorem dX8_lineAt_12 : decode cX8_lineAt 12 = .ok (.ifCond .eq 7, 3) := by decide +kernel
theorem dX8_lineAt_15 : decode cX8_lineAt 15 = .ok (.iconst 0, 1) := by decide +kernel
theorem dX8_lineAt_16 : decode cX8_lineAt 16 = .ok (.goto 4, 3) := by decide +kernel
theorem dX8_lineAt_19 : decode cX8_lineAt 19 = .ok (.iconst 1, 1) := by decide +kernel
theorem dX8_lineAt_20 : decode cX8_lineAt 20 = .ok (.invokevirtual 89, 3) := by decide +kernel
theorem dX8_lineAt_23 : decode cX8_lineAt 23 = .ok (.ifCond .eq 8, 3) := by decide +kernel
theorem dX8_lineAt_26 : decode cX8_lineAt 26 = .ok (.bipush 32, 2) := by decide +kernel
theorem dX8_lineAt_28 : decode cX8_lineAt 28 = .ok (.goto 9, 3) := by decide +kernel
theorem dX8_lineAt_31 : decode cX8_lineAt 31 = .ok (.aload_n 0, 1) := by decide +kernel
theorem dX8_lineAt_32 : decode cX8_lineAt 32 = .ok (.getfield 32, 3) := by decide +kernel
theorem dX8_lineAt_35 : decode cX8_lineAt 35 = .ok (.iload_n 1, 1) := by decide +kernel
theorem dX8_lineAt_36 : decode cX8_lineAt 36 = .ok (.caload, 1) := by decide +kernel
theorem dX8_lineAt_37 : decode cX8_lineAt 37 = .ok (.ireturn, 1) := by decide +kernel
theorem dX8_isConsistent_0 : decode cX8_isConsistent 0 = .ok (.aload_n 0, 1) := by decide +kernel
theorem dX8_isConsistent_1 : decode cX8_isConsistent 1 = .ok (.iconst 0, 1) := by decide +kernel
theorem dX8_isConsistent_2 : decode cX8_isConsistent 2 = .ok (.putfield 54, 3) := by decide +kernel
theorem dX8_isConsistent_5 : decode cX8_isConsistent 5 = .ok (.aload_n 0, 1) := by decide +kernel
theorem dX8_isConsistent_6 : decode cX8_isConsistent 6 = .ok (.getfield 7, 3) := by decide +kernel
theorem dX8_isConsistent_9 : decode cX8_isConsistent 9 = .ok (.iconst 4, 1) := by decide +kernel
theorem dX8_isConsistent_10 : decode cX8_isConsistent 10 = .ok (.iaload, 1) := by decide +kernel
theorem dX8_isConsistent_11 : decode cX8_isConsistent 11 = .ok (.istore_n 1, 1) := by decide +kernel
theorem dX8_isConsistent_12 : decode cX8_isConsistent 12 = .ok (.iconst 0, 1) := by decide +kernel
theorem dX8_isConsistent_13 : decode cX8_isConsistent 13 = .ok (.istore_n 2, 1) := by decide +kernel
theorem dX8_isConsistent_14 : decode cX8_isConsistent 14 = .ok (.iload_n 2, 1) := by decide +kernel
theorem dX8_isConsistent_15 : decode cX8_isConsistent 15 = .ok (.aload_n 0, 1) := by decide +kernel
theorem dX8_isConsistent_16 : decode cX8_isConsistent 16 = .ok (.getfield 7, 3) := by decide +kernel
theorem dX8_isConsistent_19 : decode cX8_isConsistent 19 = .ok (.iconst 1, 1) := by decide +kernel
theorem dX8_isConsistent_20 : decode cX8_isConsistent 20 = .ok (.iaload, 1) := by decide +kernel
theorem dX8_isConsistent_21 : decode cX8_isConsistent 21 = .ok (.if_icmp .ge 18, 3) := by decide +kernel
theorem dX8_isConsistent_24 : decode cX8_isConsistent 24 = .ok (.iload_n 1, 1) := by decide +kernel
theorem dX8_isConsistent_25 : decode cX8_isConsistent 25 = .ok (.aload_n 0, 1) := by decide +kernel
theorem dX8_isConsistent_26 : decode cX8_isConsistent 26 = .ok (.iload_n 2, 1) := by decide +kernel
theorem dX8_isConsistent_27 : decode cX8_isConsistent 27 = .ok (.iconst 0, 1) := by decide +kernel
theorem dX8_isConsistent_28 : decode cX8_isConsistent 28 = .ok (.invokevirtual 72, 3) := by decide +kernel
theorem dX8_isConsistent_31 : decode cX8_isConsistent 31 = .ok (.iadd, 1) := by decide +kernel
theorem dX8_isConsistent_32 : decode cX8_isConsistent 32 = .ok (.istore_n 1, 1) := by decide +kernel
theorem dX8_isConsistent_33 : decode cX8_isConsistent 33 = .ok (.iinc 2 1, 3) := by decide +kernel
theorem dX8_isConsistent_36 : decode cX8_isConsistent 36 = .ok (.goto (-22), 3) := by decide +kernel
theorem dX8_isConsistent_39 : decode cX8_isConsistent 39 = .ok (.iload_n 1, 1) := by decide +kernel
theorem dX8_isConsistent_40 : decode cX8_isConsistent 40 = .ok (.aload_n 0, 1) := by decide +kernel
theorem dX8_isConsistent_41 : decode cX8_isConsistent 41 = .ok (.getfield 7, 3) := by decide +kernel
theorem dX8_isConsistent_44 : decode cX8_isConsistent 44 = .ok (.sipush 136, 3) := by decide +kernel
theorem dX8_isConsistent_47 : decode cX8_isConsistent 47 = .ok (.iaload, 1) := by decide +kernel
theorem dX8_isConsistent_48 : decode cX8_isConsistent 48 = .ok (.aload_n 0, 1) := by decide +kernel
theorem dX8_isConsistent_49 : decode cX8_isConsistent 49 = .ok (.getfield 7, 3) := by decide +kernel
theorem dX8_isConsistent_52 : decode cX8_isConsistent 52 = .ok (.sipush 137, 3) := by decide +kernel
theorem dX8_isConsistent_55 : decode cX8_isConsistent 55 = .ok (.iaload, 1) := by decide +kernel
theorem dX8_isConsistent_56 : decode cX8_isConsistent 56 = .ok (.isub, 1) := by decide +kernel
theorem dX8_isConsistent_57 : decode cX8_isConsistent 57 = .ok (.aload_n 0, 1) := by decide +kernel
theorem dX8_isConsistent_58 : decode cX8_isConsistent 58 = .ok (.getfield 7, 3) := by decide +kernel
theorem dX8_isConsistent_61 : decode cX8_isConsistent 61 = .ok (.iconst 5, 1) := by decide +kernel
theorem dX8_isConsistent_62 : decode cX8_isConsistent 62 = .ok (.iaload, 1) := by decide +kernel
theorem dX8_isConsistent_63 : decode cX8_isConsistent 63 = .ok (.iadd, 1) := by decide +kernel
theorem dX8_isConsistent_64 : decode cX8_isConsistent 64 = .ok (.if_icmp .ne 7, 3) := by decide +kernel
theorem dX8_isConsistent_67 : decode cX8_isConsistent 67 = .ok (.iconst 1, 1) := by decide +kernel
theorem dX8_isConsistent_68 : decode cX8_isConsistent 68 = .ok (.goto 4, 3) := by decide +kernel
theorem dX8_isConsistent_71 : decode cX8_isConsistent 71 = .ok (.iconst 0, 1) := by decide +kernel
theorem dX8_isConsistent_72 : decode cX8_isConsistent 72 = .ok (.ireturn, 1) := by decide +kernel
theorem dX8_type_0 : decode cX8_type 0 = .ok (.aload_n 0, 1) := by decide +kernel
theorem dX8_type_1 : decode cX8_type 1 = .ok (.iload_n 1, 1) := by decide +kernel
theorem dX8_type_2 : decode cX8_type 2 = .ok (.bipush 32, 2) := by decide +kernel
theorem dX8_type_4 : decode cX8_type 4 = .ok (.bipush 126, 2) := by decide +kernel
theorem dX8_type_6 : decode cX8_type 6 = .ok (.invokestatic 68, 3) := by decide +kernel
theorem dX8_type_9 : decode cX8_type 9 = .ok (.ifCond .ne 7, 3) := by decide +kernel
theorem dX8_type_12 : decode cX8_type 12 = .ok (.iconst 1, 1) := by decide +kernel
theorem dX8_type_13 : decode cX8_type 13 = .ok (.goto 17, 3) := by decide +kernel
theorem dX8_type_16 : decode cX8_type 16 = .ok (.aload_n 0, 1) := by decide +kernel
theorem dX8_type_17 : decode cX8_type 17 = .ok (.getfield 192, 3) := by decide +kernel
theorem dX8_type_20 : decode cX8_type 20 = .ok (.bipush 60, 2) := by decide +kernel
theorem dX8_type_22 : decode cX8_type 22 = .ok (.if_icmp .ne 7, 3) := by decide +kernel
theorem dX8_type_25 : decode cX8_type 25 = .ok (.iconst 2, 1) := by decide +kernel
theorem dX8_type_26 : decode cX8_type 26 = .ok (.goto 4, 3) := by decide +kernel
theorem dX8_type_29 : decode cX8_type 29 = .ok (.iconst 0, 1) := by decide +kernel
theorem dX8_type_30 : decode cX8_type 30 = .ok (.invokevirtual 89, 3) := by decide +kernel
theorem dX8_type_33 : decode cX8_type 33 = .ok (.ifCond .eq 5, 3) := by decide +kernel
theorem dX8_type_36 : decode cX8_type 36 = .ok (.iconst 0, 1) := by decide +kernel
theorem dX8_type_37 : decode cX8_type 37 = .ok (.ireturn, 1) := by decide +kernel
theorem dX8_type_38 : decode cX8_type 38 = .ok (.aload_n 0, 1) := by decide +kernel
theorem dX8_type_39 : decode cX8_type 39 = .ok (.getfield 22, 3) := by decide +kernel
theorem dX8_type_42 : decode cX8_type 42 = .ok (.aload_n 0, 1) := by decide +kernel
theorem dX8_type_43 : decode cX8_type 43 = .ok (.getfield 192, 3) := by decide +kernel
theorem dX8_type_46 : decode cX8_type 46 = .ok (.iload_n 1, 1) := by decide +kernel
theorem dX8_type_47 : decode cX8_type 47 = .ok (.iastore, 1) := by decide +kernel
theorem dX8_type_48 : decode cX8_type 48 = .ok (.aload_n 0, 1) := by decide +kernel
theorem dX8_type_49 : decode cX8_type 49 = .ok (.dup, 1) := by decide +kernel
theorem dX8_type_50 : decode cX8_type 50 = .ok (.getfield 192, 3) := by decide +kernel
theorem dX8_type_53 : decode cX8_type 53 = .ok (.iconst 1, 1) := by decide +kernel
theorem dX8_type_54 : decode cX8_type 54 = .ok (.iadd, 1) := by decide +kernel
theorem dX8_type_55 : decode cX8_type 55 = .ok (.putfield 192, 3) := by decide +kernel
theorem dX8_type_58 : decode cX8_type 58 = .ok (.aload_n 0, 1) := by decide +kernel
theorem dX8_type_59 : decode cX8_type 59 = .ok (.getfield 192, 3) := by decide +kernel
theorem dX8_type_62 : decode cX8_type 62 = .ok (.ireturn, 1) := by decide +kernel
theorem dX8_here_0 : decode cX8_here 0 = .ok (.aload_n 0, 1) := by decide +kernel
theorem dX8_here_1 : decode cX8_here 1 = .ok (.getfield 195, 3) := by decide +kernel
theorem dX8_here_4 : decode cX8_here 4 = .ok (.aload_n 0, 1) := by decide +kernel
theorem dX8_here_5 : decode cX8_here 5 = .ok (.getfield 192, 3) := by decide +kernel
theorem dX8_here_8 : decode cX8_here 8 = .ok (.if_icmp .ge 15, 3) := by decide +kernel
theorem dX8_here_11 : decode cX8_here 11 = .ok (.aload_n 0, 1) := by decide +kernel
theorem dX8_here_12 : decode cX8_here 12 = .ok (.getfield 22, 3) := by decide +kernel
theorem dX8_here_15 : decode cX8_here 15 = .ok (.aload_n 0, 1) := by decide +kernel
theorem dX8_here_16 : decode cX8_here 16 = .ok (.getfield 195, 3) := by decide +kernel
theorem dX8_here_19 : decode cX8_here 19 = .ok (.iaload, 1) := by decide +kernel
theorem dX8_here_20 : decode cX8_here 20 = .ok (.goto 4, 3) := by decide +kernel
theorem dX8_here_23 : decode cX8_here 23 = .ok (.iconst (-1), 1) := by decide +kernel
theorem dX8_here_24 : decode cX8_here 24 = .ok (.ireturn, 1) := by decide +kernel
theorem dX8_skips_0 : decode cX8_skips 0 = .ok (.aload_n 0, 1) := by decide +kernel
theorem dX8_skips_1 : decode cX8_skips 1 = .ok (.invokevirtual 198, 3) := by decide +kernel
theorem dX8_skips_4 : decode cX8_skips 4 = .ok (.iload_n 1, 1) := by decide +kernel
theorem dX8_skips_5 : decode cX8_skips 5 = .ok (.if_icmp .eq 5, 3) := by decide +kernel
theorem dX8_skips_8 : decode cX8_skips 8 = .ok (.iconst 0, 1) := by decide +kernel
theorem dX8_skips_9 : decode cX8_skips 9 = .ok (.ireturn, 1) := by decide +kernel
theorem dX8_skips_10 : decode cX8_skips 10 = .ok (.aload_n 0, 1) := by decide +kernel
theorem dX8_skips_11 : decode cX8_skips 11 = .ok (.dup, 1) := by decide +kernel
theorem dX8_skips_12 : decode cX8_skips 12 = .ok (.getfield 195, 3) := by decide +kernel
theorem dX8_skips_15 : decode cX8_skips 15 = .ok (.iconst 1, 1) := by decide +kernel
theorem dX8_skips_16 : decode cX8_skips 16 = .ok (.iadd, 1) := by decide +kernel
theorem dX8_skips_17 : decode cX8_skips 17 = .ok (.putfield 195, 3) := by decide +kernel
theorem dX8_skips_20 : decode cX8_skips 20 = .ok (.iconst 1, 1) := by decide +kernel
theorem dX8_skips_21 : decode cX8_skips 21 = .ok (.ireturn, 1) := by decide +kernel
theorem dX8_isWord_0 : decode cX8_isWord 0 = .ok (.aload_n 0, 1) := by decide +kernel
theorem dX8_isWord_1 : decode cX8_isWord 1 = .ok (.getfield 51, 3) := by decide +kernel
theorem dX8_isWord_4 : decode cX8_isWord 4 = .ok (.bipush 6, 2) := by decide +kernel
theorem dX8_isWord_6 : decode cX8_isWord 6 = .ok (.aload_n 0, 1) := by decide +kernel
theorem dX8_isWord_7 : decode cX8_isWord 7 = .ok (.getfield 201, 3) := by decide +kernel
theorem dX8_isWord_10 : decode cX8_isWord 10 = .ok (.imul, 1) := by decide +kernel
theorem dX8_isWord_11 : decode cX8_isWord 11 = .ok (.iload_n 1, 1) := by decide +kernel
theorem dX8_isWord_12 : decode cX8_isWord 12 = .ok (.iastore, 1) := by decide +kernel
theorem dX8_isWord_13 : decode cX8_isWord 13 = .ok (.iconst 0, 1) := by decide +kernel
theorem dX8_isWord_14 : decode cX8_isWord 14 = .ok (.istore_n 3, 1) := by decide +kernel
theorem dX8_isWord_15 : decode cX8_isWord 15 = .ok (.iload_n 3, 1) := by decide +kernel
theorem dX8_isWord_16 : decode cX8_isWord 16 = .ok (.aload_n 2, 1) := by decide +kernel
theorem dX8_isWord_17 : decode cX8_isWord 17 = .ok (.invokevirtual 204, 3) := by decide +kernel
theorem dX8_isWord_20 : decode cX8_isWord 20 = .ok (.if_icmp .ge 23, 3) := by decide +kernel
theorem dX8_isWord_23 : decode cX8_isWord 23 = .ok (.aload_n 0, 1) := by decide +kernel
theorem dX8_isWord_24 : decode cX8_isWord 24 = .ok (.aload_n 2, 1) := by decide +kernel
theorem dX8_isWord_25 : decode cX8_isWord 25 = .ok (.iload_n 3, 1) := by decide +kernel
theorem dX8_isWord_26 : decode cX8_isWord 26 = .ok (.invokevirtual 208, 3) := by decide +kernel
theorem dX8_isWord_29 : decode cX8_isWord 29 = .ok (.invokevirtual 212, 3) := by decide +kernel
theorem dX8_isWord_32 : decode cX8_isWord 32 = .ok (.ifCond .ne 5, 3) := by decide +kernel
theorem dX8_isWord_35 : decode cX8_isWord 35 = .ok (.iconst 0, 1) := by decide +kernel
theorem dX8_isWord_36 : decode cX8_isWord 36 = .ok (.ireturn, 1) := by decide +kernel
theorem dX8_isWord_37 : decode cX8_isWord 37 = .ok (.iinc 3 1, 3) := by decide +kernel
theorem dX8_isWord_40 : decode cX8_isWord 40 = .ok (.goto (-25), 3) := by decide +kernel
theorem dX8_isWord_43 : decode cX8_isWord 43 = .ok (.iconst 1, 1) := by decide +kernel
theorem dX8_isWord_44 : decode cX8_isWord 44 = .ok (.ireturn, 1) := by decide +kernel
theorem dX8_figures_0 : decode cX8_figures 0 = .ok (.aload_n 0, 1) := by decide +kernel
theorem dX8_figures_1 : decode cX8_figures 1 = .ok (.bipush 32, 2) := by decide +kernel
theorem dX8_figures_3 : decode cX8_figures 3 = .ok (.invokevirtual 212, 3) := by decide +kernel
theorem dX8_figures_6 : decode cX8_figures 6 = .ok (.ifCond .eq 17, 3) := by decide +kernel
theorem dX8_figures_9 : decode cX8_figures 9 = .ok (.aload_n 0, 1) := by decide +kernel
theorem dX8_figures_10 : decode cX8_figures 10 = .ok (.invokevirtual 198, 3) := by decide +kernel
theorem dX8_figures_13 : decode cX8_figures 13 = .ok (.bipush 48, 2) := by decide +kernel
theorem dX8_figures_15 : decode cX8_figures 15 = .ok (.bipush 57, 2) := by decide +kernel
theorem dX8_figures_17 : decode cX8_figures 17 = .ok (.invokestatic 68, 3) := by decide +kernel
theorem dX8_figures_20 : decode cX8_figures 20 = .ok (.ifCond .ne 5, 3) := by decide +kernel
theorem dX8_figures_23 : decode cX8_figures 23 = .ok (.iconst 0, 1) := by decide +kernel
theorem dX8_figures_24 : decode cX8_figures 24 = .ok (.ireturn, 1) := by decide +kernel
theorem dX8_figures_25 : decode cX8_figures 25 = .ok (.aload_n 0, 1) := by decide +kernel
theorem dX8_figures_26 : decode cX8_figures 26 = .ok (.getfield 51, 3) := by decide +kernel
theorem dX8_figures_29 : decode cX8_figures 29 = .ok (.iload_n 1, 1) := by decide +kernel
theorem dX8_figures_30 : decode cX8_figures 30 = .ok (.iconst 0, 1) := by decide +kernel
theorem dX8_figures_31 : decode cX8_figures 31 = .ok (.iastore, 1) := by decide +kernel
theorem dX8_figures_32 : decode cX8_figures 32 = .ok (.iconst 0, 1) := by decide +kernel
theorem dX8_figures_33 : decode cX8_figures 33 = .ok (.istore_n 3, 1) := by decide +kernel
theorem dX8_figures_34 : decode cX8_figures 34 = .ok (.iload_n 3, 1) := by decide +kernel
theorem dX8_figures_35 : decode cX8_figures 35 = .ok (.iload_n 2, 1) := by decide +kernel
theorem dX8_figures_36 : decode cX8_figures 36 = .ok (.if_icmp .ge 56, 3) := by decide +kernel
theorem dX8_figures_39 : decode cX8_figures 39 = .ok (.aload_n 0, 1) := by decide +kernel
theorem dX8_figures_40 : decode cX8_figures 40 = .ok (.invokevirtual 198, 3) := by decide +kernel
theorem dX8_figures_43 : decode cX8_figures 43 = .ok (.bipush 48, 2) := by decide +kernel
theorem dX8_figures_45 : decode cX8_figures 45 = .ok (.bipush 57, 2) := by decide +kernel
theorem dX8_figures_47 : decode cX8_figures 47 = .ok (.invokestatic 68, 3) := by decide +kernel
theorem dX8_figures_50 : decode cX8_figures 50 = .ok (.ifCond .eq 42, 3) := by decide +kernel
theorem dX8_figures_53 : decode cX8_figures 53 = .ok (.aload_n 0, 1) := by decide +kernel
theorem dX8_figures_54 : decode cX8_figures 54 = .ok (.getfield 51, 3) := by decide +kernel
theorem dX8_figures_57 : decode cX8_figures 57 = .ok (.iload_n 1, 1) := by decide +kernel
theorem dX8_figures_58 : decode cX8_figures 58 = .ok (.bipush 10, 2) := by decide +kernel
theorem dX8_figures_60 : decode cX8_figures 60 = .ok (.aload_n 0, 1) := by decide +kernel
theorem dX8_figures_61 : decode cX8_figures 61 = .ok (.getfield 51, 3) := by decide +kernel
theorem dX8_figures_64 : decode cX8_figures 64 = .ok (.iload_n 1, 1) := by decide +kernel
theorem dX8_figures_65 : decode cX8_figures 65 = .ok (.iaload, 1) := by decide +kernel
theorem dX8_figures_66 : decode cX8_figures 66 = .ok (.imul, 1) := by decide +kernel
theorem dX8_figures_67 : decode cX8_figures 67 = .ok (.aload_n 0, 1) := by decide +kernel
theorem dX8_figures_68 : decode cX8_figures 68 = .ok (.invokevirtual 198, 3) := by decide +kernel
theorem dX8_figures_71 : decode cX8_figures 71 = .ok (.iadd, 1) := by decide +kernel
theorem dX8_figures_72 : decode cX8_figures 72 = .ok (.bipush 48, 2) := by decide +kernel
theorem dX8_figures_74 : decode cX8_figures 74 = .ok (.isub, 1) := by decide +kernel
theorem dX8_figures_75 : decode cX8_figures 75 = .ok (.iastore, 1) := by decide +kernel
theorem dX8_figures_76 : decode cX8_figures 76 = .ok (.aload_n 0, 1) := by decide +kernel
theorem dX8_figures_77 : decode cX8_figures 77 = .ok (.dup, 1) := by decide +kernel
theorem dX8_figures_78 : decode cX8_figures 78 = .ok (.getfield 195, 3) := by decide +kernel
theorem dX8_figures_81 : decode cX8_figures 81 = .ok (.iconst 1, 1) := by decide +kernel
theorem dX8_figures_82 : decode cX8_figures 82 = .ok (.iadd, 1) := by decide +kernel
theorem dX8_figures_83 : decode cX8_figures 83 = .ok (.putfield 195, 3) := by decide +kernel
theorem dX8_figures_86 : decode cX8_figures 86 = .ok (.iinc 3 1, 3) := by decide +kernel
theorem dX8_figures_89 : decode cX8_figures 89 = .ok (.goto (-55), 3) := by decide +kernel
theorem dX8_figures_92 : decode cX8_figures 92 = .ok (.iconst 1, 1) := by decide +kernel
theorem dX8_figures_93 : decode cX8_figures 93 = .ok (.ireturn, 1) := by decide +kernel
theorem dX8_withD_0 : decode cX8_withD 0 = .ok (.aload_n 0, 1) := by decide +kernel
theorem dX8_withD_1 : decode cX8_withD 1 = .ok (.bipush 97, 2) := by decide +kernel
theorem dX8_withD_3 : decode cX8_withD 3 = .ok (.invokevirtual 212, 3) := by decide +kernel
theorem dX8_withD_6 : decode cX8_withD 6 = .ok (.ifCond .eq 11, 3) := by decide +kernel
theorem dX8_withD_9 : decode cX8_withD 9 = .ok (.aload_n 0, 1) := by decide +kernel
theorem dX8_withD_10 : decode cX8_withD 10 = .ok (.iconst 4, 1) := by decide +kernel
theorem dX8_withD_11 : decode cX8_withD 11 = .ok (.ldc 215, 2) := by decide +kernel
theorem dX8_withD_13 : decode cX8_withD 13 = .ok (.invokevirtual 217, 3) := by decide +kernel
theorem dX8_withD_16 : decode cX8_withD 16 = .ok (.ireturn, 1) := by decide +kernel
theorem dX8_withD_17 : decode cX8_withD 17 = .ok (.aload_n 0, 1) := by decide +kernel
theorem dX8_withD_18 : decode cX8_withD 18 = .ok (.bipush 6, 2) := by decide +kernel
theorem dX8_withD_20 : decode cX8_withD 20 = .ok (.ldc 221, 2) := by decide +kernel
theorem dX8_withD_22 : decode cX8_withD 22 = .ok (.invokevirtual 217, 3) := by decide +kernel
theorem dX8_withD_25 : decode cX8_withD 25 = .ok (.ifCond .eq 27, 3) := by decide +kernel
theorem dX8_withD_28 : decode cX8_withD 28 = .ok (.aload_n 0, 1) := by decide +kernel
theorem dX8_withD_29 : decode cX8_withD 29 = .ok (.iload_n 1, 1) := by decide +kernel
theorem dX8_withD_30 : decode cX8_withD 30 = .ok (.iconst 1, 1) := by decide +kernel
theorem dX8_withD_31 : decode cX8_withD 31 = .ok (.invokevirtual 223, 3) := by decide +kernel
theorem dX8_withD_34 : decode cX8_withD 34 = .ok (.ifCond .eq 18, 3) := by decide +kernel
theorem dX8_withD_37 : decode cX8_withD 37 = .ok (.aload_n 0, 1) := by decide +kernel
theorem dX8_withD_38 : decode cX8_withD 38 = .ok (.iload_n 1, 1) := by decide +kernel
theorem dX8_withD_39 : decode cX8_withD 39 = .ok (.iconst 1, 1) := by decide +kernel
theorem dX8_withD_40 : decode cX8_withD 40 = .ok (.iadd, 1) := by decide +kernel
theorem dX8_withD_41 : decode cX8_withD 41 = .ok (.iconst 4, 1) := by decide +kernel
theorem dX8_withD_42 : decode cX8_withD 42 = .ok (.invokevirtual 223, 3) := by decide +kernel
theorem dX8_withD_45 : decode cX8_withD 45 = .ok (.ifCond .eq 7, 3) := by decide +kernel
theorem dX8_withD_48 : decode cX8_withD 48 = .ok (.iconst 1, 1) := by decide +kernel
theorem dX8_withD_49 : decode cX8_withD 49 = .ok (.goto 4, 3) := by decide +kernel
theorem dX8_withD_52 : decode cX8_withD 52 = .ok (.iconst 0, 1) := by decide +kernel
theorem dX8_withD_53 : decode cX8_withD 53 = .ok (.ireturn, 1) := by decide +kernel
theorem dX8_withT_0 : decode cX8_withT 0 = .ok (.aload_n 0, 1) := by decide +kernel
theorem dX8_withT_1 : decode cX8_withT 1 = .ok (.iconst 2, 1) := by decide +kernel
theorem dX8_withT_2 : decode cX8_withT 2 = .ok (.ldc 226, 2) := by decide +kernel
theorem dX8_withT_4 : decode cX8_withT 4 = .ok (.invokevirtual 217, 3) := by decide +kernel
theorem dX8_withT_7 : decode cX8_withT 7 = .ok (.ifCond .ne 5, 3) := by decide +kernel
theorem dX8_withT_10 : decode cX8_withT 10 = .ok (.iconst 0, 1) := by decide +kernel
theorem dX8_withT_11 : decode cX8_withT 11 = .ok (.ireturn, 1) := by decide +kernel
theorem dX8_withT_12 : decode cX8_withT 12 = .ok (.aload_n 0, 1) := by decide +kernel
theorem dX8_withT_13 : decode cX8_withT 13 = .ok (.bipush 114, 2) := by decide +kernel
theorem dX8_withT_15 : decode cX8_withT 15 = .ok (.invokevirtual 212, 3) := by decide +kernel
theorem dX8_withT_18 : decode cX8_withT 18 = .ok (.ifCond .eq 28, 3) := by decide +kernel
theorem dX8_withT_21 : decode cX8_withT 21 = .ok (.aload_n 0, 1) := by decide +kernel
theorem dX8_withT_22 : decode cX8_withT 22 = .ok (.iconst 1, 1) := by decide +kernel
theorem dX8_withT_23 : decode cX8_withT 23 = .ok (.ldc 228, 2) := by decide +kernel
theorem dX8_withT_25 : decode cX8_withT 25 = .ok (.invokevirtual 217, 3) := by decide +kernel
theorem dX8_withT_28 : decode cX8_withT 28 = .ok (.ifCond .eq 16, 3) := by decide +kernel
theorem dX8_withT_31 : decode cX8_withT 31 = .ok (.aload_n 0, 1) := by decide +kernel
theorem dX8_withT_32 : decode cX8_withT 32 = .ok (.iload_n 1, 1) := by decide +kernel
theorem dX8_withT_33 : decode cX8_withT 33 = .ok (.iconst 4, 1) := by decide +kernel
theorem dX8_withT_34 : decode cX8_withT 34 = .ok (.invokevirtual 223, 3) := by decide +kernel
theorem dX8_withT_37 : decode cX8_withT 37 = .ok (.ifCond .eq 7, 3) := by decide +kernel
theorem dX8_withT_40 : decode cX8_withT 40 = .ok (.iconst 1, 1) := by decide +kernel
theorem dX8_withT_41 : decode cX8_withT 41 = .ok (.goto 4, 3) := by decide +kernel
theorem dX8_withT_44 : decode cX8_withT 44 = .ok (.iconst 0, 1) := by decide +kernel
theorem dX8_withT_45 : decode cX8_withT 45 = .ok (.ireturn, 1) := by decide +kernel
theorem dX8_withT_46 : decode cX8_withT 46 = .ok (.aload_n 0, 1) := by decide +kernel
theorem dX8_withT_47 : decode cX8_withT 47 = .ok (.iload_n 1, 1) := by decide +kernel
theorem dX8_withT_48 : decode cX8_withT 48 = .ok (.iconst 1, 1) := by decide +kernel
theorem dX8_withT_49 : decode cX8_withT 49 = .ok (.invokevirtual 223, 3) := by decide +kernel
theorem dX8_withT_52 : decode cX8_withT 52 = .ok (.ifCond .eq 51, 3) := by decide +kernel
theorem dX8_withT_55 : decode cX8_withT 55 = .ok (.aload_n 0, 1) := by decide +kernel
theorem dX8_withT_56 : decode cX8_withT 56 = .ok (.iload_n 1, 1) := by decide +kernel
theorem dX8_withT_57 : decode cX8_withT 57 = .ok (.iconst 1, 1) := by decide +kernel
theorem dX8_withT_58 : decode cX8_withT 58 = .ok (.iadd, 1) := by decide +kernel
theorem dX8_withT_59 : decode cX8_withT 59 = .ok (.iconst 1, 1) := by decide +kernel
theorem dX8_withT_60 : decode cX8_withT 60 = .ok (.invokevirtual 223, 3) := by decide +kernel
theorem dX8_withT_63 : decode cX8_withT 63 = .ok (.ifCond .eq 40, 3) := by decide +kernel
theorem dX8_withT_66 : decode cX8_withT 66 = .ok (.aload_n 0, 1) := by decide +kernel
theorem dX8_withT_67 : decode cX8_withT 67 = .ok (.iload_n 1, 1) := by decide +kernel
theorem dX8_withT_68 : decode cX8_withT 68 = .ok (.iconst 2, 1) := by decide +kernel
theorem dX8_withT_69 : decode cX8_withT 69 = .ok (.iadd, 1) := by decide +kernel
theorem dX8_withT_70 : decode cX8_withT 70 = .ok (.iconst 1, 1) := by decide +kernel
theorem dX8_withT_71 : decode cX8_withT 71 = .ok (.invokevirtual 223, 3) := by decide +kernel
theorem dX8_withT_74 : decode cX8_withT 74 = .ok (.ifCond .eq 29, 3) := by decide +kernel
theorem dX8_withT_77 : decode cX8_withT 77 = .ok (.aload_n 0, 1) := by decide +kernel
theorem dX8_withT_78 : decode cX8_withT 78 = .ok (.iload_n 1, 1) := by decide +kernel
theorem dX8_withT_79 : decode cX8_withT 79 = .ok (.iconst 3, 1) := by decide +kernel
theorem dX8_withT_80 : decode cX8_withT 80 = .ok (.iadd, 1) := by decide +kernel
theorem dX8_withT_81 : decode cX8_withT 81 = .ok (.iconst 2, 1) := by decide +kernel
theorem dX8_withT_82 : decode cX8_withT 82 = .ok (.invokevirtual 223, 3) := by decide +kernel
theorem dX8_withT_85 : decode cX8_withT 85 = .ok (.ifCond .eq 18, 3) := by decide +kernel
theorem dX8_withT_88 : decode cX8_withT 88 = .ok (.aload_n 0, 1) := by decide +kernel
theorem dX8_withT_89 : decode cX8_withT 89 = .ok (.iload_n 1, 1) := by decide +kernel
theorem dX8_withT_90 : decode cX8_withT 90 = .ok (.iconst 4, 1) := by decide +kernel
theorem dX8_withT_91 : decode cX8_withT 91 = .ok (.iadd, 1) := by decide +kernel
theorem dX8_withT_92 : decode cX8_withT 92 = .ok (.iconst 1, 1) := by decide +kernel
theorem dX8_withT_93 : decode cX8_withT 93 = .ok (.invokevirtual 223, 3) := by decide +kernel
theorem dX8_withT_96 : decode cX8_withT 96 = .ok (.ifCond .eq 7, 3) := by decide +kernel
theorem dX8_withT_99 : decode cX8_withT 99 = .ok (.iconst 1, 1) := by decide +kernel
theorem dX8_withT_100 : decode cX8_withT 100 = .ok (.goto 4, 3) := by decide +kernel
theorem dX8_withT_103 : decode cX8_withT 103 = .ok (.iconst 0, 1) := by decide +kernel
theorem dX8_withT_104 : decode cX8_withT 104 = .ok (.ireturn, 1) := by decide +kernel
theorem dX8_commandHere_0 : decode cX8_commandHere 0 = .ok (.bipush 6, 2) := by decide +kernel
theorem dX8_commandHere_2 : decode cX8_commandHere 2 = .ok (.aload_n 0, 1) := by decide +kernel
theorem dX8_commandHere_3 : decode cX8_commandHere 3 = .ok (.getfield 201, 3) := by decide +kernel
theorem dX8_commandHere_6 : decode cX8_commandHere 6 = .ok (.imul, 1) := by decide +kernel
theorem dX8_commandHere_7 : decode cX8_commandHere 7 = .ok (.iconst 1, 1) := by decide +kernel
theorem dX8_commandHere_8 : decode cX8_commandHere 8 = .ok (.iadd, 1) := by decide +kernel
theorem dX8_commandHere_9 : decode cX8_commandHere 9 = .ok (.istore_n 1, 1) := by decide +kernel
theorem dX8_commandHere_10 : decode cX8_commandHere 10 = .ok (.aload_n 0, 1) := by decide +kernel
theorem dX8_commandHere_11 : decode cX8_commandHere 11 = .ok (.bipush 104, 2) := by decide +kernel
theorem dX8_commandHere_13 : decode cX8_commandHere 13 = .ok (.invokevirtual 212, 3) := by decide +kernel
theorem dX8_commandHere_16 : decode cX8_commandHere 16 = .ok (.ifCond .eq 39, 3) := by decide +kernel
theorem dX8_commandHere_19 : decode cX8_commandHere 19 = .ok (.aload_n 0, 1) := by decide +kernel
theorem dX8_commandHere_20 : decode cX8_commandHere 20 = .ok (.iconst 0, 1) := by decide +kernel
theorem dX8_commandHere_21 : decode cX8_commandHere 21 = .ok (.ldc 230, 2) := by decide +kernel
theorem dX8_commandHere_23 : decode cX8_commandHere 23 = .ok (.invokevirtual 217, 3) := by decide +kernel
theorem dX8_commandHere_26 : decode cX8_commandHere 26 = .ok (.ifCond .eq 27, 3) := by decide +kernel
theorem dX8_commandHere_29 : decode cX8_commandHere 29 = .ok (.aload_n 0, 1) := by decide +kernel
theorem dX8_commandHere_30 : decode cX8_commandHere 30 = .ok (.iload_n 1, 1) := by decide +kernel
theorem dX8_commandHere_31 : decode cX8_commandHere 31 = .ok (.iconst 2, 1) := by decide +kernel
theorem dX8_commandHere_32 : decode cX8_commandHere 32 = .ok (.invokevirtual 223, 3) := by decide +kernel
theorem dX8_commandHere_35 : decode cX8_commandHere 35 = .ok (.ifCond .eq 18, 3) := by decide +kernel
theorem dX8_commandHere_38 : decode cX8_commandHere 38 = .ok (.aload_n 0, 1) := by decide +kernel
theorem dX8_commandHere_39 : decode cX8_commandHere 39 = .ok (.iload_n 1, 1) := by decide +kernel
theorem dX8_commandHere_40 : decode cX8_commandHere 40 = .ok (.iconst 1, 1) := by decide +kernel
theorem dX8_commandHere_41 : decode cX8_commandHere 41 = .ok (.iadd, 1) := by decide +kernel
theorem dX8_commandHere_42 : decode cX8_commandHere 42 = .ok (.iconst 2, 1) := by decide +kernel
theorem dX8_commandHere_43 : decode cX8_commandHere 43 = .ok (.invokevirtual 223, 3) := by decide +kernel
theorem dX8_commandHere_46 : decode cX8_commandHere 46 = .ok (.ifCond .eq 7, 3) := by decide +kernel
theorem dX8_commandHere_49 : decode cX8_commandHere 49 = .ok (.iconst 1, 1) := by decide +kernel
theorem dX8_commandHere_50 : decode cX8_commandHere 50 = .ok (.goto 4, 3) := by decide +kernel
theorem dX8_commandHere_53 : decode cX8_commandHere 53 = .ok (.iconst 0, 1) := by decide +kernel
theorem dX8_commandHere_54 : decode cX8_commandHere 54 = .ok (.ireturn, 1) := by decide +kernel
theorem dX8_commandHere_55 : decode cX8_commandHere 55 = .ok (.aload_n 0, 1) := by decide +kernel
theorem dX8_commandHere_56 : decode cX8_commandHere 56 = .ok (.bipush 116, 2) := by decide +kernel
theorem dX8_commandHere_58 : decode cX8_commandHere 58 = .ok (.invokevirtual 212, 3) := by decide +kernel
theorem dX8_commandHere_61 : decode cX8_commandHere 61 = .ok (.ifCond .eq 9, 3) := by decide +kernel
theorem dX8_commandHere_64 : decode cX8_commandHere 64 = .ok (.aload_n 0, 1) := by decide +kernel
theorem dX8_commandHere_65 : decode cX8_commandHere 65 = .ok (.iload_n 1, 1) := by decide +kernel
theorem dX8_commandHere_66 : decode cX8_commandHere 66 = .ok (.invokevirtual 232, 3) := by decide +kernel
theorem dX8_commandHere_69 : decode cX8_commandHere 69 = .ok (.ireturn, 1) := by decide +kernel
theorem dX8_commandHere_70 : decode cX8_commandHere 70 = .ok (.aload_n 0, 1) := by decide +kernel
theorem dX8_commandHere_71 : decode cX8_commandHere 71 = .ok (.bipush 113, 2) := by decide +kernel
theorem dX8_commandHere_73 : decode cX8_commandHere 73 = .ok (.invokevirtual 212, 3) := by decide +kernel
theorem dX8_commandHere_76 : decode cX8_commandHere 76 = .ok (.ifCond .eq 39, 3) := by decide +kernel
theorem dX8_commandHere_79 : decode cX8_commandHere 79 = .ok (.aload_n 0, 1) := by decide +kernel
theorem dX8_commandHere_80 : decode cX8_commandHere 80 = .ok (.iconst 3, 1) := by decide +kernel
theorem dX8_commandHere_81 : decode cX8_commandHere 81 = .ok (.ldc 235, 2) := by decide +kernel
theorem dX8_commandHere_83 : decode cX8_commandHere 83 = .ok (.invokevirtual 217, 3) := by decide +kernel
theorem dX8_commandHere_86 : decode cX8_commandHere 86 = .ok (.ifCond .eq 27, 3) := by decide +kernel
theorem dX8_commandHere_89 : decode cX8_commandHere 89 = .ok (.aload_n 0, 1) := by decide +kernel
theorem dX8_commandHere_90 : decode cX8_commandHere 90 = .ok (.iload_n 1, 1) := by decide +kernel
theorem dX8_commandHere_91 : decode cX8_commandHere 91 = .ok (.iconst 1, 1) := by decide +kernel
theorem dX8_commandHere_92 : decode cX8_commandHere 92 = .ok (.invokevirtual 223, 3) := by decide +kernel
theorem dX8_commandHere_95 : decode cX8_commandHere 95 = .ok (.ifCond .eq 18, 3) := by decide +kernel
theorem dX8_commandHere_98 : decode cX8_commandHere 98 = .ok (.aload_n 0, 1) := by decide +kernel
theorem dX8_commandHere_99 : decode cX8_commandHere 99 = .ok (.iload_n 1, 1) := by decide +kernel
theorem dX8_commandHere_100 : decode cX8_commandHere 100 = .ok (.iconst 1, 1) := by decide +kernel
theorem dX8_commandHere_101 : decode cX8_commandHere 101 = .ok (.iadd, 1) := by decide +kernel
theorem dX8_commandHere_102 : decode cX8_commandHere 102 = .ok (.iconst 2, 1) := by decide +kernel
theorem dX8_commandHere_103 : decode cX8_commandHere 103 = .ok (.invokevirtual 223, 3) := by decide +kernel
theorem dX8_commandHere_106 : decode cX8_commandHere 106 = .ok (.ifCond .eq 7, 3) := by decide +kernel
theorem dX8_commandHere_109 : decode cX8_commandHere 109 = .ok (.iconst 1, 1) := by decide +kernel
theorem dX8_commandHere_110 : decode cX8_commandHere 110 = .ok (.goto 4, 3) := by decide +kernel
theorem dX8_commandHere_113 : decode cX8_commandHere 113 = .ok (.iconst 0, 1) := by decide +kernel
theorem dX8_commandHere_114 : decode cX8_commandHere 114 = .ok (.ireturn, 1) := by decide +kernel
theorem dX8_commandHere_115 : decode cX8_commandHere 115 = .ok (.aload_n 0, 1) := by decide +kernel
theorem dX8_commandHere_116 : decode cX8_commandHere 116 = .ok (.bipush 100, 2) := by decide +kernel
theorem dX8_commandHere_118 : decode cX8_commandHere 118 = .ok (.invokevirtual 212, 3) := by decide +kernel
theorem dX8_commandHere_121 : decode cX8_commandHere 121 = .ok (.ifCond .eq 9, 3) := by decide +kernel
theorem dX8_commandHere_124 : decode cX8_commandHere 124 = .ok (.aload_n 0, 1) := by decide +kernel
theorem dX8_commandHere_125 : decode cX8_commandHere 125 = .ok (.iload_n 1, 1) := by decide +kernel
theorem dX8_commandHere_126 : decode cX8_commandHere 126 = .ok (.invokevirtual 237, 3) := by decide +kernel
theorem dX8_commandHere_129 : decode cX8_commandHere 129 = .ok (.ireturn, 1) := by decide +kernel
theorem dX8_commandHere_130 : decode cX8_commandHere 130 = .ok (.aload_n 0, 1) := by decide +kernel
theorem dX8_commandHere_131 : decode cX8_commandHere 131 = .ok (.bipush 112, 2) := by decide +kernel
theorem dX8_commandHere_133 : decode cX8_commandHere 133 = .ok (.invokevirtual 212, 3) := by decide +kernel
theorem dX8_commandHere_136 : decode cX8_commandHere 136 = .ok (.ifCond .eq 39, 3) := by decide +kernel
theorem dX8_commandHere_139 : decode cX8_commandHere 139 = .ok (.aload_n 0, 1) := by decide +kernel
theorem dX8_commandHere_140 : decode cX8_commandHere 140 = .ok (.iconst 5, 1) := by decide +kernel
theorem dX8_commandHere_141 : decode cX8_commandHere 141 = .ok (.ldc 240, 2) := by decide +kernel
theorem dX8_commandHere_143 : decode cX8_commandHere 143 = .ok (.invokevirtual 217, 3) := by decide +kernel
theorem dX8_commandHere_146 : decode cX8_commandHere 146 = .ok (.ifCond .eq 27, 3) := by decide +kernel
theorem dX8_commandHere_149 : decode cX8_commandHere 149 = .ok (.aload_n 0, 1) := by decide +kernel
theorem dX8_commandHere_150 : decode cX8_commandHere 150 = .ok (.iload_n 1, 1) := by decide +kernel
theorem dX8_commandHere_151 : decode cX8_commandHere 151 = .ok (.iconst 1, 1) := by decide +kernel
theorem dX8_commandHere_152 : decode cX8_commandHere 152 = .ok (.invokevirtual 223, 3) := by decide +kernel
theorem dX8_commandHere_155 : decode cX8_commandHere 155 = .ok (.ifCond .eq 18, 3) := by decide +kernel
theorem dX8_commandHere_158 : decode cX8_commandHere 158 = .ok (.aload_n 0, 1) := by decide +kernel
theorem dX8_commandHere_159 : decode cX8_commandHere 159 = .ok (.iload_n 1, 1) := by decide +kernel
theorem dX8_commandHere_160 : decode cX8_commandHere 160 = .ok (.iconst 1, 1) := by decide +kernel
theorem dX8_commandHere_161 : decode cX8_commandHere 161 = .ok (.iadd, 1) := by decide +kernel
theorem dX8_commandHere_162 : decode cX8_commandHere 162 = .ok (.iconst 4, 1) := by decide +kernel
theorem dX8_commandHere_163 : decode cX8_commandHere 163 = .ok (.invokevirtual 223, 3) := by decide +kernel
theorem dX8_commandHere_166 : decode cX8_commandHere 166 = .ok (.ifCond .eq 7, 3) := by decide +kernel
theorem dX8_commandHere_169 : decode cX8_commandHere 169 = .ok (.iconst 1, 1) := by decide +kernel
theorem dX8_commandHere_170 : decode cX8_commandHere 170 = .ok (.goto 4, 3) := by decide +kernel
theorem dX8_commandHere_173 : decode cX8_commandHere 173 = .ok (.iconst 0, 1) := by decide +kernel
theorem dX8_commandHere_174 : decode cX8_commandHere 174 = .ok (.ireturn, 1) := by decide +kernel
theorem dX8_commandHere_175 : decode cX8_commandHere 175 = .ok (.aload_n 0, 1) := by decide +kernel
theorem dX8_commandHere_176 : decode cX8_commandHere 176 = .ok (.bipush 103, 2) := by decide +kernel
theorem dX8_commandHere_178 : decode cX8_commandHere 178 = .ok (.invokevirtual 212, 3) := by decide +kernel
theorem dX8_commandHere_181 : decode cX8_commandHere 181 = .ok (.ifCond .eq 38, 3) := by decide +kernel
theorem dX8_commandHere_184 : decode cX8_commandHere 184 = .ok (.aload_n 0, 1) := by decide +kernel
theorem dX8_commandHere_185 : decode cX8_commandHere 185 = .ok (.bipush 7, 2) := by decide +kernel
theorem dX8_commandHere_187 : decode cX8_commandHere 187 = .ok (.ldc 242, 2) := by decide +kernel
theorem dX8_commandHere_189 : decode cX8_commandHere 189 = .ok (.invokevirtual 217, 3) := by decide +kernel
theorem dX8_commandHere_192 : decode cX8_commandHere 192 = .ok (.ifCond .eq 27, 3) := by decide +kernel
theorem dX8_commandHere_195 : decode cX8_commandHere 195 = .ok (.aload_n 0, 1) := by decide +kernel
theorem dX8_commandHere_196 : decode cX8_commandHere 196 = .ok (.iload_n 1, 1) := by decide +kernel
theorem dX8_commandHere_197 : decode cX8_commandHere 197 = .ok (.iconst 1, 1) := by decide +kernel
theorem dX8_commandHere_198 : decode cX8_commandHere 198 = .ok (.invokevirtual 223, 3) := by decide +kernel
theorem dX8_commandHere_201 : decode cX8_commandHere 201 = .ok (.ifCond .eq 18, 3) := by decide +kernel
theorem dX8_commandHere_204 : decode cX8_commandHere 204 = .ok (.aload_n 0, 1) := by decide +kernel
theorem dX8_commandHere_205 : decode cX8_commandHere 205 = .ok (.iload_n 1, 1) := by decide +kernel
theorem dX8_commandHere_206 : decode cX8_commandHere 206 = .ok (.iconst 1, 1) := by decide +kernel
theorem dX8_commandHere_207 : decode cX8_commandHere 207 = .ok (.iadd, 1) := by decide +kernel
theorem dX8_commandHere_208 : decode cX8_commandHere 208 = .ok (.iconst 4, 1) := by decide +kernel
theorem dX8_commandHere_209 : decode cX8_commandHere 209 = .ok (.invokevirtual 223, 3) := by decide +kernel
theorem dX8_commandHere_212 : decode cX8_commandHere 212 = .ok (.ifCond .eq 7, 3) := by decide +kernel
theorem dX8_commandHere_215 : decode cX8_commandHere 215 = .ok (.iconst 1, 1) := by decide +kernel
theorem dX8_commandHere_216 : decode cX8_commandHere 216 = .ok (.goto 4, 3) := by decide +kernel
theorem dX8_commandHere_219 : decode cX8_commandHere 219 = .ok (.iconst 0, 1) := by decide +kernel
theorem dX8_commandHere_220 : decode cX8_commandHere 220 = .ok (.ireturn, 1) := by decide +kernel
theorem dX8_isText_0 : decode cX8_isText 0 = .ok (.aload_n 0, 1) := by decide +kernel
theorem dX8_isText_1 : decode cX8_isText 1 = .ok (.iconst 0, 1) := by decide +kernel
theorem dX8_isText_2 : decode cX8_isText 2 = .ok (.putfield 195, 3) := by decide +kernel
theorem dX8_isText_5 : decode cX8_isText 5 = .ok (.aload_n 0, 1) := by decide +kernel
theorem dX8_isText_6 : decode cX8_isText 6 = .ok (.iconst 0, 1) := by decide +kernel
theorem dX8_isText_7 : decode cX8_isText 7 = .ok (.putfield 201, 3) := by decide +kernel
theorem dX8_isText_10 : decode cX8_isText 10 = .ok (.aload_n 0, 1) := by decide +kernel
theorem dX8_isText_11 : decode cX8_isText 11 = .ok (.invokevirtual 244, 3) := by decide +kernel
theorem dX8_isText_14 : decode cX8_isText 14 = .ok (.ifCond .ne 5, 3) := by decide +kernel
theorem dX8_isText_17 : decode cX8_isText 17 = .ok (.iconst 0, 1) := by decide +kernel
theorem dX8_isText_18 : decode cX8_isText 18 = .ok (.ireturn, 1) := by decide +kernel
theorem dX8_isText_19 : decode cX8_isText 19 = .ok (.aload_n 0, 1) := by decide +kernel
theorem dX8_isText_20 : decode cX8_isText 20 = .ok (.dup, 1) := by decide +kernel
theorem dX8_isText_21 : decode cX8_isText 21 = .ok (.getfield 201, 3) := by decide +kernel
theorem dX8_isText_24 : decode cX8_isText 24 = .ok (.iconst 1, 1) := by decide +kernel
theorem dX8_isText_25 : decode cX8_isText 25 = .ok (.iadd, 1) := by decide +kernel
theorem dX8_isText_26 : decode cX8_isText 26 = .ok (.putfield 201, 3) := by decide +kernel
theorem dX8_isText_29 : decode cX8_isText 29 = .ok (.aload_n 0, 1) := by decide +kernel
theorem dX8_isText_30 : decode cX8_isText 30 = .ok (.bipush 59, 2) := by decide +kernel
theorem dX8_isText_32 : decode cX8_isText 32 = .ok (.invokevirtual 212, 3) := by decide +kernel
theorem dX8_isText_35 : decode cX8_isText 35 = .ok (.ifCond .ne (-25), 3) := by decide +kernel
theorem dX8_isText_38 : decode cX8_isText 38 = .ok (.aload_n 0, 1) := by decide +kernel
theorem dX8_isText_39 : decode cX8_isText 39 = .ok (.getfield 195, 3) := by decide +kernel
theorem dX8_isText_42 : decode cX8_isText 42 = .ok (.aload_n 0, 1) := by decide +kernel
theorem dX8_isText_43 : decode cX8_isText 43 = .ok (.getfield 192, 3) := by decide +kernel
theorem dX8_isText_46 : decode cX8_isText 46 = .ok (.if_icmp .ne 7, 3) := by decide +kernel
theorem dX8_isText_49 : decode cX8_isText 49 = .ok (.iconst 1, 1) := by decide +kernel
theorem dX8_isText_50 : decode cX8_isText 50 = .ok (.goto 4, 3) := by decide +kernel
theorem dX8_isText_53 : decode cX8_isText 53 = .ok (.iconst 0, 1) := by decide +kernel
theorem dX8_isText_54 : decode cX8_isText 54 = .ok (.ireturn, 1) := by decide +kernel
theorem dX8_carries_0 : decode cX8_carries 0 = .ok (.aload_n 0, 1) := by decide +kernel
theorem dX8_carries_1 : decode cX8_carries 1 = .ok (.getfield 51, 3) := by decide +kernel
theorem dX8_carries_4 : decode cX8_carries 4 = .ok (.iload_n 1, 1) := by decide +kernel
theorem dX8_carries_5 : decode cX8_carries 5 = .ok (.iconst 1, 1) := by decide +kernel
theorem dX8_carries_6 : decode cX8_carries 6 = .ok (.iadd, 1) := by decide +kernel
theorem dX8_carries_7 : decode cX8_carries 7 = .ok (.iaload, 1) := by decide +kernel
theorem dX8_carries_8 : decode cX8_carries 8 = .ok (.istore_n 2, 1) := by decide +kernel
theorem dX8_carries_9 : decode cX8_carries 9 = .ok (.aload_n 0, 1) := by decide +kernel
theorem dX8_carries_10 : decode cX8_carries 10 = .ok (.getfield 51, 3) := by decide +kernel
theorem dX8_carries_13 : decode cX8_carries 13 = .ok (.iload_n 1, 1) := by decide +kernel
theorem dX8_carries_14 : decode cX8_carries 14 = .ok (.iconst 2, 1) := by decide +kernel
theorem dX8_carries_15 : decode cX8_carries 15 = .ok (.iadd, 1) := by decide +kernel
theorem dX8_carries_16 : decode cX8_carries 16 = .ok (.iaload, 1) := by decide +kernel
theorem dX8_carries_17 : decode cX8_carries 17 = .ok (.istore_n 3, 1) := by decide +kernel
theorem dX8_carries_18 : decode cX8_carries 18 = .ok (.aload_n 0, 1) := by decide +kernel
theorem dX8_carries_19 : decode cX8_carries 19 = .ok (.getfield 51, 3) := by decide +kernel
theorem dX8_carries_22 : decode cX8_carries 22 = .ok (.iload_n 1, 1) := by decide +kernel
theorem dX8_carries_23 : decode cX8_carries 23 = .ok (.iaload, 1) := by decide +kernel
theorem dX8_carries_24 : decode cX8_carries 24 = .ok (.tableswitch 114 0 6 #[44, 51, 57, 88, 95, 100, 107], 44) := by decide +kernel
theorem dX8_carries_68 : decode cX8_carries 68 = .ok (.aload_n 0, 1) := by decide +kernel
theorem dX8_carries_69 : decode cX8_carries 69 = .ok (.iload_n 2, 1) := by decide +kernel
theorem dX8_carries_70 : decode cX8_carries 70 = .ok (.iload_n 3, 1) := by decide +kernel
theorem dX8_carries_71 : decode cX8_carries 71 = .ok (.invokevirtual 248, 3) := by decide +kernel
theorem dX8_carries_74 : decode cX8_carries 74 = .ok (.ireturn, 1) := by decide +kernel
theorem dX8_carries_75 : decode cX8_carries 75 = .ok (.aload_n 0, 1) := by decide +kernel
theorem dX8_carries_76 : decode cX8_carries 76 = .ok (.iload_n 2, 1) := by decide +kernel
theorem dX8_carries_77 : decode cX8_carries 77 = .ok (.invokevirtual 251, 3) := by decide +kernel
theorem dX8_carries_80 : decode cX8_carries 80 = .ok (.ireturn, 1) := by decide +kernel
theorem dX8_carries_81 : decode cX8_carries 81 = .ok (.aload_n 0, 1) := by decide +kernel
theorem dX8_carries_82 : decode cX8_carries 82 = .ok (.iload_n 2, 1) := by decide +kernel
theorem dX8_carries_83 : decode cX8_carries 83 = .ok (.iload_n 3, 1) := by decide +kernel
theorem dX8_carries_84 : decode cX8_carries 84 = .ok (.aload_n 0, 1) := by decide +kernel
theorem dX8_carries_85 : decode cX8_carries 85 = .ok (.getfield 51, 3) := by decide +kernel
theorem dX8_carries_88 : decode cX8_carries 88 = .ok (.iload_n 1, 1) := by decide +kernel
theorem dX8_carries_89 : decode cX8_carries 89 = .ok (.iconst 3, 1) := by decide +kernel
theorem dX8_carries_90 : decode cX8_carries 90 = .ok (.iadd, 1) := by decide +kernel
theorem dX8_carries_91 : decode cX8_carries 91 = .ok (.iaload, 1) := by decide +kernel
theorem dX8_carries_92 : decode cX8_carries 92 = .ok (.aload_n 0, 1) := by decide +kernel
theorem dX8_carries_93 : decode cX8_carries 93 = .ok (.getfield 51, 3) := by decide +kernel
theorem dX8_carries_96 : decode cX8_carries 96 = .ok (.iload_n 1, 1) := by decide +kernel
theorem dX8_carries_97 : decode cX8_carries 97 = .ok (.iconst 4, 1) := by decide +kernel
theorem dX8_carries_98 : decode cX8_carries 98 = .ok (.iadd, 1) := by decide +kernel
theorem dX8_carries_99 : decode cX8_carries 99 = .ok (.iaload, 1) := by decide +kernel
theorem dX8_carries_100 : decode cX8_carries 100 = .ok (.aload_n 0, 1) := by decide +kernel
theorem dX8_carries_101 : decode cX8_carries 101 = .ok (.getfield 51, 3) := by decide +kernel
theorem dX8_carries_104 : decode cX8_carries 104 = .ok (.iload_n 1, 1) := by decide +kernel
theorem dX8_carries_105 : decode cX8_carries 105 = .ok (.iconst 5, 1) := by decide +kernel
theorem dX8_carries_106 : decode cX8_carries 106 = .ok (.iadd, 1) := by decide +kernel
theorem dX8_carries_107 : decode cX8_carries 107 = .ok (.iaload, 1) := by decide +kernel
theorem dX8_carries_108 : decode cX8_carries 108 = .ok (.invokevirtual 254, 3) := by decide +kernel
theorem dX8_carries_111 : decode cX8_carries 111 = .ok (.ireturn, 1) := by decide +kernel
theorem dX8_carries_112 : decode cX8_carries 112 = .ok (.aload_n 0, 1) := by decide +kernel
theorem dX8_carries_113 : decode cX8_carries 113 = .ok (.iload_n 2, 1) := by decide +kernel
theorem dX8_carries_114 : decode cX8_carries 114 = .ok (.iload_n 3, 1) := by decide +kernel
theorem dX8_carries_115 : decode cX8_carries 115 = .ok (.invokevirtual 257, 3) := by decide +kernel
theorem dX8_carries_118 : decode cX8_carries 118 = .ok (.ireturn, 1) := by decide +kernel
theorem dX8_carries_119 : decode cX8_carries 119 = .ok (.aload_n 0, 1) := by decide +kernel
theorem dX8_carries_120 : decode cX8_carries 120 = .ok (.invokevirtual 260, 3) := by decide +kernel
theorem dX8_carries_123 : decode cX8_carries 123 = .ok (.ireturn, 1) := by decide +kernel
theorem dX8_carries_124 : decode cX8_carries 124 = .ok (.aload_n 0, 1) := by decide +kernel
theorem dX8_carries_125 : decode cX8_carries 125 = .ok (.iload_n 2, 1) := by decide +kernel
theorem dX8_carries_126 : decode cX8_carries 126 = .ok (.iload_n 3, 1) := by decide +kernel
theorem dX8_carries_127 : decode cX8_carries 127 = .ok (.invokevirtual 263, 3) := by decide +kernel
theorem dX8_carries_130 : decode cX8_carries 130 = .ok (.ireturn, 1) := by decide +kernel
theorem dX8_carries_131 : decode cX8_carries 131 = .ok (.aload_n 0, 1) := by decide +kernel
theorem dX8_carries_132 : decode cX8_carries 132 = .ok (.iload_n 2, 1) := by decide +kernel
theorem dX8_carries_133 : decode cX8_carries 133 = .ok (.iload_n 3, 1) := by decide +kernel
theorem dX8_carries_134 : decode cX8_carries 134 = .ok (.invokevirtual 266, 3) := by decide +kernel
theorem dX8_carries_137 : decode cX8_carries 137 = .ok (.ireturn, 1) := by decide +kernel
theorem dX8_carries_138 : decode cX8_carries 138 = .ok (.aload_n 0, 1) := by decide +kernel
theorem dX8_carries_139 : decode cX8_carries 139 = .ok (.iload_n 2, 1) := by decide +kernel
theorem dX8_carries_140 : decode cX8_carries 140 = .ok (.iload_n 3, 1) := by decide +kernel
theorem dX8_carries_141 : decode cX8_carries 141 = .ok (.invokevirtual 269, 3) := by decide +kernel
theorem dX8_carries_144 : decode cX8_carries 144 = .ok (.ireturn, 1) := by decide +kernel
theorem dX8_execute_0 : decode cX8_execute 0 = .ok (.aload_n 0, 1) := by decide +kernel
theorem dX8_execute_1 : decode cX8_execute 1 = .ok (.invokevirtual 272, 3) := by decide +kernel
theorem dX8_execute_4 : decode cX8_execute 4 = .ok (.istore_n 1, 1) := by decide +kernel
theorem dX8_execute_5 : decode cX8_execute 5 = .ok (.iload_n 1, 1) := by decide +kernel
theorem dX8_execute_6 : decode cX8_execute 6 = .ok (.ifCond .ne 11, 3) := by decide +kernel
theorem dX8_execute_9 : decode cX8_execute 9 = .ok (.aload_n 0, 1) := by decide +kernel
theorem dX8_execute_10 : decode cX8_execute 10 = .ok (.aload_n 0, 1) := by decide +kernel
theorem dX8_execute_11 : decode cX8_execute 11 = .ok (.getfield 195, 3) := by decide +kernel
theorem dX8_execute_14 : decode cX8_execute 14 = .ok (.putfield 25, 3) := by decide +kernel
theorem dX8_execute_17 : decode cX8_execute 17 = .ok (.aload_n 0, 1) := by decide +kernel
theorem dX8_execute_18 : decode cX8_execute 18 = .ok (.iconst 0, 1) := by decide +kernel
theorem dX8_execute_19 : decode cX8_execute 19 = .ok (.putfield 192, 3) := by decide +kernel
theorem dX8_execute_22 : decode cX8_execute 22 = .ok (.aload_n 0, 1) := by decide +kernel
theorem dX8_execute_23 : decode cX8_execute 23 = .ok (.iload_n 1, 1) := by decide +kernel
theorem dX8_execute_24 : decode cX8_execute 24 = .ok (.ifCond .eq 7, 3) := by decide +kernel
theorem dX8_execute_27 : decode cX8_execute 27 = .ok (.iconst 0, 1) := by decide +kernel
theorem dX8_execute_28 : decode cX8_execute 28 = .ok (.goto 4, 3) := by decide +kernel
theorem dX8_execute_31 : decode cX8_execute 31 = .ok (.iconst 1, 1) := by decide +kernel
theorem dX8_execute_32 : decode cX8_execute 32 = .ok (.invokevirtual 89, 3) := by decide +kernel
theorem dX8_execute_35 : decode cX8_execute 35 = .ok (.ifCond .eq 5, 3) := by decide +kernel
theorem dX8_execute_38 : decode cX8_execute 38 = .ok (.iconst 0, 1) := by decide +kernel
theorem dX8_execute_39 : decode cX8_execute 39 = .ok (.ireturn, 1) := by decide +kernel
theorem dX8_execute_40 : decode cX8_execute 40 = .ok (.aload_n 0, 1) := by decide +kernel
theorem dX8_execute_41 : decode cX8_execute 41 = .ok (.getfield 7, 3) := by decide +kernel
theorem dX8_execute_44 : decode cX8_execute 44 = .ok (.iconst 0, 1) := by decide +kernel
theorem dX8_execute_45 : decode cX8_execute 45 = .ok (.aload_n 0, 1) := by decide +kernel
theorem dX8_execute_46 : decode cX8_execute 46 = .ok (.getfield 19, 3) := by decide +kernel
theorem dX8_execute_49 : decode cX8_execute 49 = .ok (.iconst 0, 1) := by decide +kernel
theorem dX8_execute_50 : decode cX8_execute 50 = .ok (.invokestatic 64, 3) := by decide +kernel
theorem dX8_execute_53 : decode cX8_execute 53 = .ok (.aload_n 0, 1) := by decide +kernel
theorem dX8_execute_54 : decode cX8_execute 54 = .ok (.iconst 1, 1) := by decide +kernel
theorem dX8_execute_55 : decode cX8_execute 55 = .ok (.putfield 57, 3) := by decide +kernel
theorem dX8_execute_58 : decode cX8_execute 58 = .ok (.iconst 0, 1) := by decide +kernel
theorem dX8_execute_59 : decode cX8_execute 59 = .ok (.istore_n 2, 1) := by decide +kernel
theorem dX8_execute_60 : decode cX8_execute 60 = .ok (.iconst 0, 1) := by decide +kernel
theorem dX8_execute_61 : decode cX8_execute 61 = .ok (.istore_n 3, 1) := by decide +kernel
theorem dX8_execute_62 : decode cX8_execute 62 = .ok (.iload_n 2, 1) := by decide +kernel
theorem dX8_execute_63 : decode cX8_execute 63 = .ok (.aload_n 0, 1) := by decide +kernel
theorem dX8_execute_64 : decode cX8_execute 64 = .ok (.getfield 201, 3) := by decide +kernel
theorem dX8_execute_67 : decode cX8_execute 67 = .ok (.if_icmp .ge 32, 3) := by decide +kernel
theorem dX8_execute_70 : decode cX8_execute 70 = .ok (.aload_n 0, 1) := by decide +kernel
theorem dX8_execute_71 : decode cX8_execute 71 = .ok (.getfield 54, 3) := by decide +kernel
theorem dX8_execute_74 : decode cX8_execute 74 = .ok (.ifCond .ne 25, 3) := by decide +kernel
theorem dX8_execute_77 : decode cX8_execute 77 = .ok (.aload_n 0, 1) := by decide +kernel
theorem dX8_execute_78 : decode cX8_execute 78 = .ok (.bipush 6, 2) := by decide +kernel
theorem dX8_execute_80 : decode cX8_execute 80 = .ok (.iload_n 2, 1) := by decide +kernel
theorem dX8_execute_81 : decode cX8_execute 81 = .ok (.imul, 1) := by decide +kernel
theorem dX8_execute_82 : decode cX8_execute 82 = .ok (.invokevirtual 275, 3) := by decide +kernel
theorem dX8_execute_85 : decode cX8_execute 85 = .ok (.istore_n 3, 1) := by decide +kernel
theorem dX8_execute_86 : decode cX8_execute 86 = .ok (.aload_n 0, 1) := by decide +kernel
theorem dX8_execute_87 : decode cX8_execute 87 = .ok (.getfield 54, 3) := by decide +kernel
theorem dX8_execute_90 : decode cX8_execute 90 = .ok (.ifCond .ne (-28), 3) := by decide +kernel
theorem dX8_execute_93 : decode cX8_execute 93 = .ok (.iinc 2 1, 3) := by decide +kernel
theorem dX8_execute_96 : decode cX8_execute 96 = .ok (.goto (-34), 3) := by decide +kernel
theorem dX8_execute_99 : decode cX8_execute 99 = .ok (.aload_n 0, 1) := by decide +kernel
theorem dX8_execute_100 : decode cX8_execute 100 = .ok (.iconst 0, 1) := by decide +kernel
theorem dX8_execute_101 : decode cX8_execute 101 = .ok (.putfield 57, 3) := by decide +kernel
theorem dX8_execute_104 : decode cX8_execute 104 = .ok (.aload_n 0, 1) := by decide +kernel
theorem dX8_execute_105 : decode cX8_execute 105 = .ok (.getfield 54, 3) := by decide +kernel
theorem dX8_execute_108 : decode cX8_execute 108 = .ok (.ifCond .le 36, 3) := by decide +kernel
theorem dX8_execute_111 : decode cX8_execute 111 = .ok (.aload_n 0, 1) := by decide +kernel
theorem dX8_execute_112 : decode cX8_execute 112 = .ok (.getfield 19, 3) := by decide +kernel
theorem dX8_execute_115 : decode cX8_execute 115 = .ok (.iconst 0, 1) := by decide +kernel
theorem dX8_execute_116 : decode cX8_execute 116 = .ok (.aload_n 0, 1) := by decide +kernel
theorem dX8_execute_117 : decode cX8_execute 117 = .ok (.getfield 7, 3) := by decide +kernel
theorem dX8_execute_120 : decode cX8_execute 120 = .ok (.iconst 0, 1) := by decide +kernel
theorem dX8_execute_121 : decode cX8_execute 121 = .ok (.invokestatic 64, 3) := by decide +kernel
theorem dX8_execute_124 : decode cX8_execute 124 = .ok (.aload_n 0, 1) := by decide +kernel
theorem dX8_execute_125 : decode cX8_execute 125 = .ok (.iload_n 2, 1) := by decide +kernel
theorem dX8_execute_126 : decode cX8_execute 126 = .ok (.putfield 29, 3) := by decide +kernel
theorem dX8_execute_129 : decode cX8_execute 129 = .ok (.aload_n 0, 1) := by decide +kernel
theorem dX8_execute_130 : decode cX8_execute 130 = .ok (.iconst 2, 1) := by decide +kernel
theorem dX8_execute_131 : decode cX8_execute 131 = .ok (.putfield 54, 3) := by decide +kernel
theorem dX8_execute_134 : decode cX8_execute 134 = .ok (.iload_n 3, 1) := by decide +kernel
theorem dX8_execute_135 : decode cX8_execute 135 = .ok (.ifCond .le 7, 3) := by decide +kernel
theorem dX8_execute_138 : decode cX8_execute 138 = .ok (.iconst 0, 1) := by decide +kernel
theorem dX8_execute_139 : decode cX8_execute 139 = .ok (.goto 4, 3) := by decide +kernel
theorem dX8_execute_142 : decode cX8_execute 142 = .ok (.iload_n 3, 1) := by decide +kernel
theorem dX8_execute_143 : decode cX8_execute 143 = .ok (.ireturn, 1) := by decide +kernel
theorem dX8_execute_144 : decode cX8_execute 144 = .ok (.aload_n 0, 1) := by decide +kernel
theorem dX8_execute_145 : decode cX8_execute 145 = .ok (.aload_n 0, 1) := by decide +kernel
theorem dX8_execute_146 : decode cX8_execute 146 = .ok (.getfield 19, 3) := by decide +kernel
theorem dX8_execute_149 : decode cX8_execute 149 = .ok (.invokevirtual 93, 3) := by decide +kernel
theorem dX8_execute_152 : decode cX8_execute 152 = .ok (.aload_n 0, 1) := by decide +kernel
theorem dX8_execute_153 : decode cX8_execute 153 = .ok (.getfield 201, 3) := by decide +kernel
theorem dX8_execute_156 : decode cX8_execute 156 = .ok (.ireturn, 1) := by decide +kernel
theorem dX8_errorPosition_0 : decode cX8_errorPosition 0 = .ok (.aload_n 0, 1) := by decide +kernel
theorem dX8_errorPosition_1 : decode cX8_errorPosition 1 = .ok (.aload_n 0, 1) := by decide +kernel
theorem dX8_errorPosition_2 : decode cX8_errorPosition 2 = .ok (.getfield 25, 3) := by decide +kernel
theorem dX8_errorPosition_5 : decode cX8_errorPosition 5 = .ok (.ifCond .ge 7, 3) := by decide +kernel
theorem dX8_errorPosition_8 : decode cX8_errorPosition 8 = .ok (.iconst 1, 1) := by decide +kernel
theorem dX8_errorPosition_9 : decode cX8_errorPosition 9 = .ok (.goto 4, 3) := by decide +kernel
theorem dX8_errorPosition_12 : decode cX8_errorPosition 12 = .ok (.iconst 0, 1) := by decide +kernel
theorem dX8_errorPosition_13 : decode cX8_errorPosition 13 = .ok (.invokevirtual 89, 3) := by decide +kernel
theorem dX8_errorPosition_16 : decode cX8_errorPosition 16 = .ok (.ifCond .eq 7, 3) := by decide +kernel
theorem dX8_errorPosition_19 : decode cX8_errorPosition 19 = .ok (.iconst 0, 1) := by decide +kernel
theorem dX8_errorPosition_20 : decode cX8_errorPosition 20 = .ok (.goto 7, 3) := by decide +kernel
theorem dX8_errorPosition_23 : decode cX8_errorPosition 23 = .ok (.aload_n 0, 1) := by decide +kernel
theorem dX8_errorPosition_24 : decode cX8_errorPosition 24 = .ok (.getfield 25, 3) := by decide +kernel
theorem dX8_errorPosition_27 : decode cX8_errorPosition 27 = .ok (.ireturn, 1) := by decide +kernel
theorem dX8_failedCommand_0 : decode cX8_failedCommand 0 = .ok (.aload_n 0, 1) := by decide +kernel
theorem dX8_failedCommand_1 : decode cX8_failedCommand 1 = .ok (.aload_n 0, 1) := by decide +kernel
theorem dX8_failedCommand_2 : decode cX8_failedCommand 2 = .ok (.getfield 29, 3) := by decide +kernel
theorem dX8_failedCommand_5 : decode cX8_failedCommand 5 = .ok (.ifCond .ge 7, 3) := by decide +kernel
theorem dX8_failedCommand_8 : decode cX8_failedCommand 8 = .ok (.iconst 1, 1) := by decide +kernel
theorem dX8_failedCommand_9 : decode cX8_failedCommand 9 = .ok (.goto 4, 3) := by decide +kernel
theorem dX8_failedCommand_12 : decode cX8_failedCommand 12 = .ok (.iconst 0, 1) := by decide +kernel
theorem dX8_failedCommand_13 : decode cX8_failedCommand 13 = .ok (.invokevirtual 89, 3) := by decide +kernel
theorem dX8_failedCommand_16 : decode cX8_failedCommand 16 = .ok (.ifCond .eq 7, 3) := by decide +kernel
theorem dX8_failedCommand_19 : decode cX8_failedCommand 19 = .ok (.iconst 0, 1) := by decide +kernel
theorem dX8_failedCommand_20 : decode cX8_failedCommand 20 = .ok (.goto 7, 3) := by decide +kernel
theorem dX8_failedCommand_23 : decode cX8_failedCommand 23 = .ok (.aload_n 0, 1) := by decide +kernel
theorem dX8_failedCommand_24 : decode cX8_failedCommand 24 = .ok (.getfield 29, 3) := by decide +kernel
theorem dX8_failedCommand_27 : decode cX8_failedCommand 27 = .ok (.ireturn, 1) := by decide +kernel
theorem dX8_undo_0 : decode cX8_undo 0 = .ok (.aload_n 0, 1) := by decide +kernel
theorem dX8_undo_1 : decode cX8_undo 1 = .ok (.aload_n 0, 1) := by decide +kernel
theorem dX8_undo_2 : decode cX8_undo 2 = .ok (.getfield 61, 3) := by decide +kernel
theorem dX8_undo_5 : decode cX8_undo 5 = .ok (.ifCond .ne 7, 3) := by decide +kernel
theorem dX8_undo_8 : decode cX8_undo 8 = .ok (.iconst 1, 1) := by decide +kernel
theorem dX8_undo_9 : decode cX8_undo 9 = .ok (.goto 4, 3) := by decide +kernel
theorem dX8_undo_12 : decode cX8_undo 12 = .ok (.iconst 0, 1) := by decide +kernel
theorem dX8_undo_13 : decode cX8_undo 13 = .ok (.invokevirtual 89, 3) := by decide +kernel
theorem dX8_undo_16 : decode cX8_undo 16 = .ok (.ifCond .eq 5, 3) := by decide +kernel
theorem dX8_undo_19 : decode cX8_undo 19 = .ok (.iconst 0, 1) := by decide +kernel
theorem dX8_undo_20 : decode cX8_undo 20 = .ok (.ireturn, 1) := by decide +kernel
theorem dX8_undo_21 : decode cX8_undo 21 = .ok (.aload_n 0, 1) := by decide +kernel
theorem dX8_undo_22 : decode cX8_undo 22 = .ok (.dup, 1) := by decide +kernel
theorem dX8_undo_23 : decode cX8_undo 23 = .ok (.getfield 61, 3) := by decide +kernel
theorem dX8_undo_26 : decode cX8_undo 26 = .ok (.iconst 1, 1) := by decide +kernel
theorem dX8_undo_27 : decode cX8_undo 27 = .ok (.isub, 1) := by decide +kernel
theorem dX8_undo_28 : decode cX8_undo 28 = .ok (.putfield 61, 3) := by decide +kernel
theorem dX8_undo_31 : decode cX8_undo 31 = .ok (.aload_n 0, 1) := by decide +kernel
theorem dX8_undo_32 : decode cX8_undo 32 = .ok (.getfield 13, 3) := by decide +kernel
theorem dX8_undo_35 : decode cX8_undo 35 = .ok (.sipush 138, 3) := by decide +kernel
theorem dX8_undo_38 : decode cX8_undo 38 = .ok (.aload_n 0, 1) := by decide +kernel
theorem dX8_undo_39 : decode cX8_undo 39 = .ok (.getfield 61, 3) := by decide +kernel
theorem dX8_undo_42 : decode cX8_undo 42 = .ok (.imul, 1) := by decide +kernel
theorem dX8_undo_43 : decode cX8_undo 43 = .ok (.aload_n 0, 1) := by decide +kernel
theorem dX8_undo_44 : decode cX8_undo 44 = .ok (.getfield 7, 3) := by decide +kernel
theorem dX8_undo_47 : decode cX8_undo 47 = .ok (.iconst 0, 1) := by decide +kernel
theorem dX8_undo_48 : decode cX8_undo 48 = .ok (.invokestatic 64, 3) := by decide +kernel
theorem dX8_undo_51 : decode cX8_undo 51 = .ok (.aload_n 0, 1) := by decide +kernel
theorem dX8_undo_52 : decode cX8_undo 52 = .ok (.getfield 61, 3) := by decide +kernel
theorem dX8_undo_55 : decode cX8_undo 55 = .ok (.ireturn, 1) := by decide +kernel
theorem dX8_save_0 : decode cX8_save 0 = .ok (.aload_n 0, 1) := by decide +kernel
theorem dX8_save_1 : decode cX8_save 1 = .ok (.iconst 0, 1) := by decide +kernel
theorem dX8_save_2 : decode cX8_save 2 = .ok (.putfield 54, 3) := by decide +kernel
theorem dX8_save_5 : decode cX8_save 5 = .ok (.aload_n 0, 1) := by decide +kernel
theorem dX8_save_6 : decode cX8_save 6 = .ok (.iconst 1, 1) := by decide +kernel
theorem dX8_save_7 : decode cX8_save 7 = .ok (.putfield 278, 3) := by decide +kernel
theorem dX8_save_10 : decode cX8_save 10 = .ok (.aload_n 0, 1) := by decide +kernel
theorem dX8_save_11 : decode cX8_save 11 = .ok (.getfield 7, 3) := by decide +kernel
theorem dX8_save_14 : decode cX8_save 14 = .ok (.iconst 0, 1) := by decide +kernel
theorem dX8_save_15 : decode cX8_save 15 = .ok (.aload_n 0, 1) := by decide +kernel
theorem dX8_save_16 : decode cX8_save 16 = .ok (.getfield 16, 3) := by decide +kernel
theorem dX8_save_19 : decode cX8_save 19 = .ok (.iconst 0, 1) := by decide +kernel
theorem dX8_save_20 : decode cX8_save 20 = .ok (.invokestatic 64, 3) := by decide +kernel
theorem dX8_save_23 : decode cX8_save 23 = .ok (.aload_n 0, 1) := by decide +kernel
theorem dX8_save_24 : decode cX8_save 24 = .ok (.getfield 7, 3) := by decide +kernel
theorem dX8_save_27 : decode cX8_save 27 = .ok (.iconst 2, 1) := by decide +kernel
theorem dX8_save_28 : decode cX8_save 28 = .ok (.iaload, 1) := by decide +kernel
theorem dX8_save_29 : decode cX8_save 29 = .ok (.ireturn, 1) := by decide +kernel
theorem dX8_restore_0 : decode cX8_restore 0 = .ok (.aload_n 0, 1) := by decide +kernel
theorem dX8_restore_1 : decode cX8_restore 1 = .ok (.aload_n 0, 1) := by decide +kernel
theorem dX8_restore_2 : decode cX8_restore 2 = .ok (.getfield 278, 3) := by decide +kernel
theorem dX8_restore_5 : decode cX8_restore 5 = .ok (.ifCond .eq 7, 3) := by decide +kernel
theorem dX8_restore_8 : decode cX8_restore 8 = .ok (.iconst 0, 1) := by decide +kernel
theorem dX8_restore_9 : decode cX8_restore 9 = .ok (.goto 4, 3) := by decide +kernel
theorem dX8_restore_12 : decode cX8_restore 12 = .ok (.iconst 1, 1) := by decide +kernel
theorem dX8_restore_13 : decode cX8_restore 13 = .ok (.invokevirtual 89, 3) := by decide +kernel
theorem dX8_restore_16 : decode cX8_restore 16 = .ok (.ifCond .eq 5, 3) := by decide +kernel
theorem dX8_restore_19 : decode cX8_restore 19 = .ok (.iconst 0, 1) := by decide +kernel
theorem dX8_restore_20 : decode cX8_restore 20 = .ok (.ireturn, 1) := by decide +kernel
theorem dX8_restore_21 : decode cX8_restore 21 = .ok (.aload_n 0, 1) := by decide +kernel
theorem dX8_restore_22 : decode cX8_restore 22 = .ok (.getfield 16, 3) := by decide +kernel
theorem dX8_restore_25 : decode cX8_restore 25 = .ok (.iconst 0, 1) := by decide +kernel
theorem dX8_restore_26 : decode cX8_restore 26 = .ok (.aload_n 0, 1) := by decide +kernel
theorem dX8_restore_27 : decode cX8_restore 27 = .ok (.getfield 7, 3) := by decide +kernel
theorem dX8_restore_30 : decode cX8_restore 30 = .ok (.iconst 0, 1) := by decide +kernel
theorem dX8_restore_31 : decode cX8_restore 31 = .ok (.invokestatic 64, 3) := by decide +kernel
theorem dX8_restore_34 : decode cX8_restore 34 = .ok (.aload_n 0, 1) := by decide +kernel
theorem dX8_restore_35 : decode cX8_restore 35 = .ok (.iconst 0, 1) := by decide +kernel
theorem dX8_restore_36 : decode cX8_restore 36 = .ok (.putfield 61, 3) := by decide +kernel
theorem dX8_restore_39 : decode cX8_restore 39 = .ok (.aload_n 0, 1) := by decide +kernel
theorem dX8_restore_40 : decode cX8_restore 40 = .ok (.getfield 7, 3) := by decide +kernel
theorem dX8_restore_43 : decode cX8_restore 43 = .ok (.iconst 2, 1) := by decide +kernel
theorem dX8_restore_44 : decode cX8_restore 44 = .ok (.iaload, 1) := by decide +kernel
theorem dX8_restore_45 : decode cX8_restore 45 = .ok (.ireturn, 1) := by decide +kernel
