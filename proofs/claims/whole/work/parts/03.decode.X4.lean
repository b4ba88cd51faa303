theorem dX4_init_0 : decode cX4_init 0 = .ok (.aload_n 0, 1) := by decide +kernel
theorem dX4_init_1 : decode cX4_init 1 = .ok (.invokespecial 3, 3) := by decide +kernel
theorem dX4_init_4 : decode cX4_init 4 = .ok (.aload_n 0, 1) := by decide +kernel
theorem dX4_init_5 : decode cX4_init 5 = .ok (.iconst 4, 1) := by decide +kernel
theorem dX4_init_6 : decode cX4_init 6 = .ok (.newarray .int, 2) := by decide +kernel
theorem dX4_init_8 : decode cX4_init 8 = .ok (.putfield 9, 3) := by decide +kernel
theorem dX4_init_11 : decode cX4_init 11 = .ok (.aload_n 0, 1) := by decide +kernel
theorem dX4_init_12 : decode cX4_init 12 = .ok (.iconst 4, 1) := by decide +kernel
theorem dX4_init_13 : decode cX4_init 13 = .ok (.newarray .int, 2) := by decide +kernel
theorem dX4_init_15 : decode cX4_init 15 = .ok (.putfield 15, 3) := by decide +kernel
theorem dX4_init_18 : decode cX4_init 18 = .ok (.aload_n 0, 1) := by decide +kernel
theorem dX4_init_19 : decode cX4_init 19 = .ok (.iconst 4, 1) := by decide +kernel
theorem dX4_init_20 : decode cX4_init 20 = .ok (.newarray .int, 2) := by decide +kernel
theorem dX4_init_22 : decode cX4_init 22 = .ok (.putfield 18, 3) := by decide +kernel
theorem dX4_init_25 : decode cX4_init 25 = .ok (.aload_n 0, 1) := by decide +kernel
theorem dX4_init_26 : decode cX4_init 26 = .ok (.bipush 6, 2) := by decide +kernel
theorem dX4_init_28 : decode cX4_init 28 = .ok (.newarray .int, 2) := by decide +kernel
theorem dX4_init_30 : decode cX4_init 30 = .ok (.putfield 21, 3) := by decide +kernel
theorem dX4_init_33 : decode cX4_init 33 = .ok (.aload_n 0, 1) := by decide +kernel
theorem dX4_init_34 : decode cX4_init 34 = .ok (.bipush 6, 2) := by decide +kernel
theorem dX4_init_36 : decode cX4_init 36 = .ok (.newarray .int, 2) := by decide +kernel
theorem dX4_init_38 : decode cX4_init 38 = .ok (.putfield 24, 3) := by decide +kernel
theorem dX4_init_41 : decode cX4_init 41 = .ok (.aload_n 0, 1) := by decide +kernel
theorem dX4_init_42 : decode cX4_init 42 = .ok (.bipush 20, 2) := by decide +kernel
theorem dX4_init_44 : decode cX4_init 44 = .ok (.newarray .int, 2) := by decide +kernel
theorem dX4_init_46 : decode cX4_init 46 = .ok (.putfield 27, 3) := by decide +kernel
theorem dX4_init_49 : decode cX4_init 49 = .ok (.aload_n 0, 1) := by decide +kernel
theorem dX4_init_50 : decode cX4_init 50 = .ok (.bipush 20, 2) := by decide +kernel
theorem dX4_init_52 : decode cX4_init 52 = .ok (.newarray .int, 2) := by decide +kernel
theorem dX4_init_54 : decode cX4_init 54 = .ok (.putfield 30, 3) := by decide +kernel
theorem dX4_init_57 : decode cX4_init 57 = .ok (.aload_n 0, 1) := by decide +kernel
theorem dX4_init_58 : decode cX4_init 58 = .ok (.bipush 20, 2) := by decide +kernel
theorem dX4_init_60 : decode cX4_init 60 = .ok (.newarray .int, 2) := by decide +kernel
theorem dX4_init_62 : decode cX4_init 62 = .ok (.putfield 33, 3) := by decide +kernel
theorem dX4_init_65 : decode cX4_init 65 = .ok (.aload_n 0, 1) := by decide +kernel
theorem dX4_init_66 : decode cX4_init 66 = .ok (.bipush 20, 2) := by decide +kernel
theorem dX4_init_68 : decode cX4_init 68 = .ok (.newarray .int, 2) := by decide +kernel
theorem dX4_init_70 : decode cX4_init 70 = .ok (.putfield 36, 3) := by decide +kernel
theorem dX4_init_73 : decode cX4_init 73 = .ok (.aload_n 0, 1) := by decide +kernel
theorem dX4_init_74 : decode cX4_init 74 = .ok (.bipush 20, 2) := by decide +kernel
theorem dX4_init_76 : decode cX4_init 76 = .ok (.newarray .int, 2) := by decide +kernel
theorem dX4_init_78 : decode cX4_init 78 = .ok (.putfield 39, 3) := by decide +kernel
theorem dX4_init_81 : decode cX4_init 81 = .ok (.return_, 1) := by decide +kernel
theorem dX4_copyFrom_0 : decode cX4_copyFrom 0 = .ok (.aload_n 0, 1) := by decide +kernel
theorem dX4_copyFrom_1 : decode cX4_copyFrom 1 = .ok (.aload_n 1, 1) := by decide +kernel
theorem dX4_copyFrom_2 : decode cX4_copyFrom 2 = .ok (.getfield 42, 3) := by decide +kernel
theorem dX4_copyFrom_5 : decode cX4_copyFrom 5 = .ok (.putfield 42, 3) := by decide +kernel
theorem dX4_copyFrom_8 : decode cX4_copyFrom 8 = .ok (.aload_n 1, 1) := by decide +kernel
theorem dX4_copyFrom_9 : decode cX4_copyFrom 9 = .ok (.getfield 9, 3) := by decide +kernel
theorem dX4_copyFrom_12 : decode cX4_copyFrom 12 = .ok (.iconst 0, 1) := by decide +kernel
theorem dX4_copyFrom_13 : decode cX4_copyFrom 13 = .ok (.aload_n 0, 1) := by decide +kernel
theorem dX4_copyFrom_14 : decode cX4_copyFrom 14 = .ok (.getfield 9, 3) := by decide +kernel
theorem dX4_copyFrom_17 : decode cX4_copyFrom 17 = .ok (.iconst 0, 1) := by decide +kernel
theorem dX4_copyFrom_18 : decode cX4_copyFrom 18 = .ok (.iconst 4, 1) := by decide +kernel
theorem dX4_copyFrom_19 : decode cX4_copyFrom 19 = .ok (.invokestatic 46, 3) := by decide +kernel
theorem dX4_copyFrom_22 : decode cX4_copyFrom 22 = .ok (.aload_n 1, 1) := by decide +kernel
theorem dX4_copyFrom_23 : decode cX4_copyFrom 23 = .ok (.getfield 15, 3) := by decide +kernel
theorem dX4_copyFrom_26 : decode cX4_copyFrom 26 = .ok (.iconst 0, 1) := by decide +kernel
theorem dX4_copyFrom_27 : decode cX4_copyFrom 27 = .ok (.aload_n 0, 1) := by decide +kernel
theorem dX4_copyFrom_28 : decode cX4_copyFrom 28 = .ok (.getfield 15, 3) := by decide +kernel
theorem dX4_copyFrom_31 : decode cX4_copyFrom 31 = .ok (.iconst 0, 1) := by decide +kernel
theorem dX4_copyFrom_32 : decode cX4_copyFrom 32 = .ok (.iconst 4, 1) := by decide +kernel
theorem dX4_copyFrom_33 : decode cX4_copyFrom 33 = .ok (.invokestatic 46, 3) := by decide +kernel
theorem dX4_copyFrom_36 : decode cX4_copyFrom 36 = .ok (.aload_n 1, 1) := by decide +kernel
theorem dX4_copyFrom_37 : decode cX4_copyFrom 37 = .ok (.getfield 18, 3) := by decide +kernel
theorem dX4_copyFrom_40 : decode cX4_copyFrom 40 = .ok (.iconst 0, 1) := by decide +kernel
theorem dX4_copyFrom_41 : decode cX4_copyFrom 41 = .ok (.aload_n 0, 1) := by decide +kernel
theorem dX4_copyFrom_42 : decode cX4_copyFrom 42 = .ok (.getfield 18, 3) := by decide +kernel
theorem dX4_copyFrom_45 : decode cX4_copyFrom 45 = .ok (.iconst 0, 1) := by decide +kernel
theorem dX4_copyFrom_46 : decode cX4_copyFrom 46 = .ok (.iconst 4, 1) := by decide +kernel
theorem dX4_copyFrom_47 : decode cX4_copyFrom 47 = .ok (.invokestatic 46, 3) := by decide +kernel
theorem dX4_copyFrom_50 : decode cX4_copyFrom 50 = .ok (.aload_n 0, 1) := by decide +kernel
theorem dX4_copyFrom_51 : decode cX4_copyFrom 51 = .ok (.aload_n 1, 1) := by decide +kernel
theorem dX4_copyFrom_52 : decode cX4_copyFrom 52 = .ok (.getfield 52, 3) := by decide +kernel
theorem dX4_copyFrom_55 : decode cX4_copyFrom 55 = .ok (.putfield 52, 3) := by decide +kernel
theorem dX4_copyFrom_58 : decode cX4_copyFrom 58 = .ok (.aload_n 1, 1) := by decide +kernel
theorem dX4_copyFrom_59 : decode cX4_copyFrom 59 = .ok (.getfield 21, 3) := by decide +kernel
theorem dX4_copyFrom_62 : decode cX4_copyFrom 62 = .ok (.iconst 0, 1) := by decide +kernel
theorem dX4_copyFrom_63 : decode cX4_copyFrom 63 = .ok (.aload_n 0, 1) := by decide +kernel
theorem dX4_copyFrom_64 : decode cX4_copyFrom 64 = .ok (.getfield 21, 3) := by decide +kernel
theorem dX4_copyFrom_67 : decode cX4_copyFrom 67 = .ok (.iconst 0, 1) := by decide +kernel
theorem dX4_copyFrom_68 : decode cX4_copyFrom 68 = .ok (.bipush 6, 2) := by decide +kernel
theorem dX4_copyFrom_70 : decode cX4_copyFrom 70 = .ok (.invokestatic 46, 3) := by decide +kernel
theorem dX4_copyFrom_73 : decode cX4_copyFrom 73 = .ok (.aload_n 1, 1) := by decide +kernel
theorem dX4_copyFrom_74 : decode cX4_copyFrom 74 = .ok (.getfield 24, 3) := by decide +kernel
theorem dX4_copyFrom_77 : decode cX4_copyFrom 77 = .ok (.iconst 0, 1) := by decide +kernel
theorem dX4_copyFrom_78 : decode cX4_copyFrom 78 = .ok (.aload_n 0, 1) := by decide +kernel
theorem dX4_copyFrom_79 : decode cX4_copyFrom 79 = .ok (.getfield 24, 3) := by decide +kernel
theorem dX4_copyFrom_82 : decode cX4_copyFrom 82 = .ok (.iconst 0, 1) := by decide +kernel
theorem dX4_copyFrom_83 : decode cX4_copyFrom 83 = .ok (.bipush 6, 2) := by decide +kernel
theorem dX4_copyFrom_85 : decode cX4_copyFrom 85 = .ok (.invokestatic 46, 3) := by decide +kernel
theorem dX4_copyFrom_88 : decode cX4_copyFrom 88 = .ok (.aload_n 0, 1) := by decide +kernel
theorem dX4_copyFrom_89 : decode cX4_copyFrom 89 = .ok (.aload_n 1, 1) := by decide +kernel
theorem dX4_copyFrom_90 : decode cX4_copyFrom 90 = .ok (.getfield 55, 3) := by decide +kernel
theorem dX4_copyFrom_93 : decode cX4_copyFrom 93 = .ok (.putfield 55, 3) := by decide +kernel
theorem dX4_copyFrom_96 : decode cX4_copyFrom 96 = .ok (.aload_n 1, 1) := by decide +kernel
theorem dX4_copyFrom_97 : decode cX4_copyFrom 97 = .ok (.getfield 27, 3) := by decide +kernel
theorem dX4_copyFrom_100 : decode cX4_copyFrom 100 = .ok (.iconst 0, 1) := by decide +kernel
theorem dX4_copyFrom_101 : decode cX4_copyFrom 101 = .ok (.aload_n 0, 1) := by decide +kernel
theorem dX4_copyFrom_102 : decode cX4_copyFrom 102 = .ok (.getfield 27, 3) := by decide +kernel
theorem dX4_copyFrom_105 : decode cX4_copyFrom 105 = .ok (.iconst 0, 1) := by decide +kernel
theorem dX4_copyFrom_106 : decode cX4_copyFrom 106 = .ok (.bipush 20, 2) := by decide +kernel
theorem dX4_copyFrom_108 : decode cX4_copyFrom 108 = .ok (.invokestatic 46, 3) := by decide +kernel
theorem dX4_copyFrom_111 : decode cX4_copyFrom 111 = .ok (.aload_n 1, 1) := by decide +kernel
theorem dX4_copyFrom_112 : decode cX4_copyFrom 112 = .ok (.getfield 30, 3) := by decide +kernel
theorem dX4_copyFrom_115 : decode cX4_copyFrom 115 = .ok (.iconst 0, 1) := by decide +kernel
theorem dX4_copyFrom_116 : decode cX4_copyFrom 116 = .ok (.aload_n 0, 1) := by decide +kernel
theorem dX4_copyFrom_117 : decode cX4_copyFrom 117 = .ok (.getfield 30, 3) := by decide +kernel
theorem dX4_copyFrom_120 : decode cX4_copyFrom 120 = .ok (.iconst 0, 1) := by decide +kernel
theorem dX4_copyFrom_121 : decode cX4_copyFrom 121 = .ok (.bipush 20, 2) := by decide +kernel
theorem dX4_copyFrom_123 : decode cX4_copyFrom 123 = .ok (.invokestatic 46, 3) := by decide +kernel
theorem dX4_copyFrom_126 : decode cX4_copyFrom 126 = .ok (.aload_n 1, 1) := by decide +kernel
theorem dX4_copyFrom_127 : decode cX4_copyFrom 127 = .ok (.getfield 33, 3) := by decide +kernel
theorem dX4_copyFrom_130 : decode cX4_copyFrom 130 = .ok (.iconst 0, 1) := by decide +kernel
theorem dX4_copyFrom_131 : decode cX4_copyFrom 131 = .ok (.aload_n 0, 1) := by decide +kernel
theorem dX4_copyFrom_132 : decode cX4_copyFrom 132 = .ok (.getfield 33, 3) := by decide +kernel
theorem dX4_copyFrom_135 : decode cX4_copyFrom 135 = .ok (.iconst 0, 1) := by decide +kernel
theorem dX4_copyFrom_136 : decode cX4_copyFrom 136 = .ok (.bipush 20, 2) := by decide +kernel
theorem dX4_copyFrom_138 : decode cX4_copyFrom 138 = .ok (.invokestatic 46, 3) := by decide +kernel
theorem dX4_copyFrom_141 : decode cX4_copyFrom 141 = .ok (.aload_n 1, 1) := by decide +kernel
theorem dX4_copyFrom_142 : decode cX4_copyFrom 142 = .ok (.getfield 36, 3) := by decide +kernel
theorem dX4_copyFrom_145 : decode cX4_copyFrom 145 = .ok (.iconst 0, 1) := by decide +kernel
theorem dX4_copyFrom_146 : decode cX4_copyFrom 146 = .ok (.aload_n 0, 1) := by decide +kernel
theorem dX4_copyFrom_147 : decode cX4_copyFrom 147 = .ok (.getfield 36, 3) := by decide +kernel
theorem dX4_copyFrom_150 : decode cX4_copyFrom 150 = .ok (.iconst 0, 1) := by decide +kernel
theorem dX4_copyFrom_151 : decode cX4_copyFrom 151 = .ok (.bipush 20, 2) := by decide +kernel
theorem dX4_copyFrom_153 : decode cX4_copyFrom 153 = .ok (.invokestatic 46, 3) := by decide +kernel
theorem dX4_copyFrom_156 : decode cX4_copyFrom 156 = .ok (.aload_n 1, 1) := by decide +kernel
theorem dX4_copyFrom_157 : decode cX4_copyFrom 157 = .ok (.getfield 39, 3) := by decide +kernel
theorem dX4_copyFrom_160 : decode cX4_copyFrom 160 = .ok (.iconst 0, 1) := by decide +kernel
theorem dX4_copyFrom_161 : decode cX4_copyFrom 161 = .ok (.aload_n 0, 1) := by decide +kernel
theorem dX4_copyFrom_162 : decode cX4_copyFrom 162 = .ok (.getfield 39, 3) := by decide +kernel
theorem dX4_copyFrom_165 : decode cX4_copyFrom 165 = .ok (.iconst 0, 1) := by decide +kernel
theorem dX4_copyFrom_166 : decode cX4_copyFrom 166 = .ok (.bipush 20, 2) := by decide +kernel
theorem dX4_copyFrom_168 : decode cX4_copyFrom 168 = .ok (.invokestatic 46, 3) := by decide +kernel
theorem dX4_copyFrom_171 : decode cX4_copyFrom 171 = .ok (.aload_n 0, 1) := by decide +kernel
theorem dX4_copyFrom_172 : decode cX4_copyFrom 172 = .ok (.aload_n 1, 1) := by decide +kernel
theorem dX4_copyFrom_173 : decode cX4_copyFrom 173 = .ok (.getfield 58, 3) := by decide +kernel
theorem dX4_copyFrom_176 : decode cX4_copyFrom 176 = .ok (.putfield 58, 3) := by decide +kernel
theorem dX4_copyFrom_179 : decode cX4_copyFrom 179 = .ok (.aload_n 0, 1) := by decide +kernel
theorem dX4_copyFrom_180 : decode cX4_copyFrom 180 = .ok (.aload_n 1, 1) := by decide +kernel
theorem dX4_copyFrom_181 : decode cX4_copyFrom 181 = .ok (.getfield 61, 3) := by decide +kernel
theorem dX4_copyFrom_184 : decode cX4_copyFrom 184 = .ok (.putfield 61, 3) := by decide +kernel
theorem dX4_copyFrom_187 : decode cX4_copyFrom 187 = .ok (.aload_n 0, 1) := by decide +kernel
theorem dX4_copyFrom_188 : decode cX4_copyFrom 188 = .ok (.aload_n 1, 1) := by decide +kernel
theorem dX4_copyFrom_189 : decode cX4_copyFrom 189 = .ok (.getfield 64, 3) := by decide +kernel
theorem dX4_copyFrom_192 : decode cX4_copyFrom 192 = .ok (.putfield 64, 3) := by decide +kernel
theorem dX4_copyFrom_195 : decode cX4_copyFrom 195 = .ok (.aload_n 0, 1) := by decide +kernel
theorem dX4_copyFrom_196 : decode cX4_copyFrom 196 = .ok (.aload_n 1, 1) := by decide +kernel
theorem dX4_copyFrom_197 : decode cX4_copyFrom 197 = .ok (.getfield 67, 3) := by decide +kernel
theorem dX4_copyFrom_200 : decode cX4_copyFrom 200 = .ok (.putfield 67, 3) := by decide +kernel
theorem dX4_copyFrom_203 : decode cX4_copyFrom 203 = .ok (.aload_n 0, 1) := by decide +kernel
theorem dX4_copyFrom_204 : decode cX4_copyFrom 204 = .ok (.aload_n 1, 1) := by decide +kernel
theorem dX4_copyFrom_205 : decode cX4_copyFrom 205 = .ok (.getfield 71, 3) := by decide +kernel
theorem dX4_copyFrom_208 : decode cX4_copyFrom 208 = .ok (.putfield 71, 3) := by decide +kernel
theorem dX4_copyFrom_211 : decode cX4_copyFrom 211 = .ok (.return_, 1) := by decide +kernel
theorem dX4_faultOfHorizon_0 : decode cX4_faultOfHorizon 0 = .ok (.iload_n 1, 1) := by decide +kernel
theorem dX4_faultOfHorizon_1 : decode cX4_faultOfHorizon 1 = .ok (.iconst 1, 1) := by decide +kernel
theorem dX4_faultOfHorizon_2 : decode cX4_faultOfHorizon 2 = .ok (.bipush 99, 2) := by decide +kernel
theorem dX4_faultOfHorizon_4 : decode cX4_faultOfHorizon 4 = .ok (.invokestatic 74, 3) := by decide +kernel
theorem dX4_faultOfHorizon_7 : decode cX4_faultOfHorizon 7 = .ok (.ifCond .eq 13, 3) := by decide +kernel
theorem dX4_faultOfHorizon_10 : decode cX4_faultOfHorizon 10 = .ok (.iload_n 2, 1) := by decide +kernel
theorem dX4_faultOfHorizon_11 : decode cX4_faultOfHorizon 11 = .ok (.iconst 1, 1) := by decide +kernel
theorem dX4_faultOfHorizon_12 : decode cX4_faultOfHorizon 12 = .ok (.bipush 20, 2) := by decide +kernel
theorem dX4_faultOfHorizon_14 : decode cX4_faultOfHorizon 14 = .ok (.invokestatic 74, 3) := by decide +kernel
theorem dX4_faultOfHorizon_17 : decode cX4_faultOfHorizon 17 = .ok (.ifCond .ne 5, 3) := by decide +kernel
theorem dX4_faultOfHorizon_20 : decode cX4_faultOfHorizon 20 = .ok (.iconst 2, 1) := by decide +kernel
theorem dX4_faultOfHorizon_21 : decode cX4_faultOfHorizon 21 = .ok (.ireturn, 1) := by decide +kernel
theorem dX4_faultOfHorizon_22 : decode cX4_faultOfHorizon 22 = .ok (.aload_n 0, 1) := by decide +kernel
theorem dX4_faultOfHorizon_23 : decode cX4_faultOfHorizon 23 = .ok (.getfield 42, 3) := by decide +kernel
theorem dX4_faultOfHorizon_26 : decode cX4_faultOfHorizon 26 = .ok (.iconst 4, 1) := by decide +kernel
theorem dX4_faultOfHorizon_27 : decode cX4_faultOfHorizon 27 = .ok (.if_icmp .lt 7, 3) := by decide +kernel
theorem dX4_faultOfHorizon_30 : decode cX4_faultOfHorizon 30 = .ok (.iconst 3, 1) := by decide +kernel
theorem dX4_faultOfHorizon_31 : decode cX4_faultOfHorizon 31 = .ok (.goto 4, 3) := by decide +kernel
theorem dX4_faultOfHorizon_34 : decode cX4_faultOfHorizon 34 = .ok (.iconst 0, 1) := by decide +kernel
theorem dX4_faultOfHorizon_35 : decode cX4_faultOfHorizon 35 = .ok (.ireturn, 1) := by decide +kernel
theorem dX4_faultOfTrader_0 : decode cX4_faultOfTrader 0 = .ok (.iload_n 1, 1) := by decide +kernel
theorem dX4_faultOfTrader_1 : decode cX4_faultOfTrader 1 = .ok (.iconst 0, 1) := by decide +kernel
theorem dX4_faultOfTrader_2 : decode cX4_faultOfTrader 2 = .ok (.sipush 9999, 3) := by decide +kernel
theorem dX4_faultOfTrader_5 : decode cX4_faultOfTrader 5 = .ok (.invokestatic 74, 3) := by decide +kernel
theorem dX4_faultOfTrader_8 : decode cX4_faultOfTrader 8 = .ok (.ifCond .ne 5, 3) := by decide +kernel
theorem dX4_faultOfTrader_11 : decode cX4_faultOfTrader 11 = .ok (.iconst 2, 1) := by decide +kernel
theorem dX4_faultOfTrader_12 : decode cX4_faultOfTrader 12 = .ok (.ireturn, 1) := by decide +kernel
theorem dX4_faultOfTrader_13 : decode cX4_faultOfTrader 13 = .ok (.aload_n 0, 1) := by decide +kernel
theorem dX4_faultOfTrader_14 : decode cX4_faultOfTrader 14 = .ok (.getfield 52, 3) := by decide +kernel
theorem dX4_faultOfTrader_17 : decode cX4_faultOfTrader 17 = .ok (.bipush 6, 2) := by decide +kernel
theorem dX4_faultOfTrader_19 : decode cX4_faultOfTrader 19 = .ok (.if_icmp .lt 7, 3) := by decide +kernel
theorem dX4_faultOfTrader_22 : decode cX4_faultOfTrader 22 = .ok (.iconst 3, 1) := by decide +kernel
theorem dX4_faultOfTrader_23 : decode cX4_faultOfTrader 23 = .ok (.goto 4, 3) := by decide +kernel
theorem dX4_faultOfTrader_26 : decode cX4_faultOfTrader 26 = .ok (.iconst 0, 1) := by decide +kernel
theorem dX4_faultOfTrader_27 : decode cX4_faultOfTrader 27 = .ok (.ireturn, 1) := by decide +kernel
theorem dX4_faultOfTrade_0 : decode cX4_faultOfTrade 0 = .ok (.iload_n 1, 1) := by decide +kernel
theorem dX4_faultOfTrade_1 : decode cX4_faultOfTrade 1 = .ok (.aload_n 0, 1) := by decide +kernel
theorem dX4_faultOfTrade_2 : decode cX4_faultOfTrade 2 = .ok (.getfield 52, 3) := by decide +kernel
theorem dX4_faultOfTrade_5 : decode cX4_faultOfTrade 5 = .ok (.invokestatic 80, 3) := by decide +kernel
theorem dX4_faultOfTrade_8 : decode cX4_faultOfTrade 8 = .ok (.ifCond .eq 25, 3) := by decide +kernel
theorem dX4_faultOfTrade_11 : decode cX4_faultOfTrade 11 = .ok (.iload_n 2, 1) := by decide +kernel
theorem dX4_faultOfTrade_12 : decode cX4_faultOfTrade 12 = .ok (.aload_n 0, 1) := by decide +kernel
theorem dX4_faultOfTrade_13 : decode cX4_faultOfTrade 13 = .ok (.getfield 52, 3) := by decide +kernel
theorem dX4_faultOfTrade_16 : decode cX4_faultOfTrade 16 = .ok (.invokestatic 80, 3) := by decide +kernel
theorem dX4_faultOfTrade_19 : decode cX4_faultOfTrade 19 = .ok (.ifCond .eq 14, 3) := by decide +kernel
theorem dX4_faultOfTrade_22 : decode cX4_faultOfTrade 22 = .ok (.iload_n 3, 1) := by decide +kernel
theorem dX4_faultOfTrade_23 : decode cX4_faultOfTrade 23 = .ok (.aload_n 0, 1) := by decide +kernel
theorem dX4_faultOfTrade_24 : decode cX4_faultOfTrade 24 = .ok (.getfield 42, 3) := by decide +kernel
theorem dX4_faultOfTrade_27 : decode cX4_faultOfTrade 27 = .ok (.invokestatic 80, 3) := by decide +kernel
theorem dX4_faultOfTrade_30 : decode cX4_faultOfTrade 30 = .ok (.ifCond .ne 5, 3) := by decide +kernel
theorem dX4_faultOfTrade_33 : decode cX4_faultOfTrade 33 = .ok (.iconst 1, 1) := by decide +kernel
theorem dX4_faultOfTrade_34 : decode cX4_faultOfTrade 34 = .ok (.ireturn, 1) := by decide +kernel
theorem dX4_faultOfTrade_35 : decode cX4_faultOfTrade 35 = .ok (.iload_n 1, 1) := by decide +kernel
theorem dX4_faultOfTrade_36 : decode cX4_faultOfTrade 36 = .ok (.iload_n 2, 1) := by decide +kernel
theorem dX4_faultOfTrade_37 : decode cX4_faultOfTrade 37 = .ok (.if_icmp .eq 25, 3) := by decide +kernel
theorem dX4_faultOfTrade_40 : decode cX4_faultOfTrade 40 = .ok (.iload 4, 2) := by decide +kernel
theorem dX4_faultOfTrade_42 : decode cX4_faultOfTrade 42 = .ok (.iconst 1, 1) := by decide +kernel
theorem dX4_faultOfTrade_43 : decode cX4_faultOfTrade 43 = .ok (.bipush 20, 2) := by decide +kernel
theorem dX4_faultOfTrade_45 : decode cX4_faultOfTrade 45 = .ok (.invokestatic 74, 3) := by decide +kernel
theorem dX4_faultOfTrade_48 : decode cX4_faultOfTrade 48 = .ok (.ifCond .eq 14, 3) := by decide +kernel
theorem dX4_faultOfTrade_51 : decode cX4_faultOfTrade 51 = .ok (.iload 5, 2) := by decide +kernel
theorem dX4_faultOfTrade_53 : decode cX4_faultOfTrade 53 = .ok (.iconst 1, 1) := by decide +kernel
theorem dX4_faultOfTrade_54 : decode cX4_faultOfTrade 54 = .ok (.bipush 9, 2) := by decide +kernel
theorem dX4_faultOfTrade_56 : decode cX4_faultOfTrade 56 = .ok (.invokestatic 74, 3) := by decide +kernel
theorem dX4_faultOfTrade_59 : decode cX4_faultOfTrade 59 = .ok (.ifCond .ne 5, 3) := by decide +kernel
theorem dX4_faultOfTrade_62 : decode cX4_faultOfTrade 62 = .ok (.iconst 2, 1) := by decide +kernel
theorem dX4_faultOfTrade_63 : decode cX4_faultOfTrade 63 = .ok (.ireturn, 1) := by decide +kernel
theorem dX4_faultOfTrade_64 : decode cX4_faultOfTrade 64 = .ok (.aload_n 0, 1) := by decide +kernel
theorem dX4_faultOfTrade_65 : decode cX4_faultOfTrade 65 = .ok (.getfield 55, 3) := by decide +kernel
theorem dX4_faultOfTrade_68 : decode cX4_faultOfTrade 68 = .ok (.bipush 20, 2) := by decide +kernel
theorem dX4_faultOfTrade_70 : decode cX4_faultOfTrade 70 = .ok (.if_icmp .ge 21, 3) := by decide +kernel
theorem dX4_faultOfTrade_73 : decode cX4_faultOfTrade 73 = .ok (.aload_n 0, 1) := by decide +kernel
theorem dX4_faultOfTrade_74 : decode cX4_faultOfTrade 74 = .ok (.getfield 24, 3) := by decide +kernel
theorem dX4_faultOfTrade_77 : decode cX4_faultOfTrade 77 = .ok (.iload_n 1, 1) := by decide +kernel
theorem dX4_faultOfTrade_78 : decode cX4_faultOfTrade 78 = .ok (.iaload, 1) := by decide +kernel
theorem dX4_faultOfTrade_79 : decode cX4_faultOfTrade 79 = .ok (.ifCond .ne 12, 3) := by decide +kernel
theorem dX4_faultOfTrade_82 : decode cX4_faultOfTrade 82 = .ok (.aload_n 0, 1) := by decide +kernel
theorem dX4_faultOfTrade_83 : decode cX4_faultOfTrade 83 = .ok (.getfield 24, 3) := by decide +kernel
theorem dX4_faultOfTrade_86 : decode cX4_faultOfTrade 86 = .ok (.iload_n 2, 1) := by decide +kernel
theorem dX4_faultOfTrade_87 : decode cX4_faultOfTrade 87 = .ok (.iaload, 1) := by decide +kernel
theorem dX4_faultOfTrade_88 : decode cX4_faultOfTrade 88 = .ok (.ifCond .eq 5, 3) := by decide +kernel
theorem dX4_faultOfTrade_91 : decode cX4_faultOfTrade 91 = .ok (.iconst 3, 1) := by decide +kernel
theorem dX4_faultOfTrade_92 : decode cX4_faultOfTrade 92 = .ok (.ireturn, 1) := by decide +kernel
theorem dX4_faultOfTrade_93 : decode cX4_faultOfTrade 93 = .ok (.aload_n 0, 1) := by decide +kernel
theorem dX4_faultOfTrade_94 : decode cX4_faultOfTrade 94 = .ok (.getfield 21, 3) := by decide +kernel
theorem dX4_faultOfTrade_97 : decode cX4_faultOfTrade 97 = .ok (.iload_n 1, 1) := by decide +kernel
theorem dX4_faultOfTrade_98 : decode cX4_faultOfTrade 98 = .ok (.iaload, 1) := by decide +kernel
theorem dX4_faultOfTrade_99 : decode cX4_faultOfTrade 99 = .ok (.aload_n 0, 1) := by decide +kernel
theorem dX4_faultOfTrade_100 : decode cX4_faultOfTrade 100 = .ok (.iload_n 1, 1) := by decide +kernel
theorem dX4_faultOfTrade_101 : decode cX4_faultOfTrade 101 = .ok (.iload_n 3, 1) := by decide +kernel
theorem dX4_faultOfTrade_102 : decode cX4_faultOfTrade 102 = .ok (.iload 4, 2) := by decide +kernel
theorem dX4_faultOfTrade_104 : decode cX4_faultOfTrade 104 = .ok (.invokevirtual 84, 3) := by decide +kernel
theorem dX4_faultOfTrade_107 : decode cX4_faultOfTrade 107 = .ok (.if_icmp .lt 21, 3) := by decide +kernel
theorem dX4_faultOfTrade_110 : decode cX4_faultOfTrade 110 = .ok (.aload_n 0, 1) := by decide +kernel
theorem dX4_faultOfTrade_111 : decode cX4_faultOfTrade 111 = .ok (.getfield 21, 3) := by decide +kernel
theorem dX4_faultOfTrade_114 : decode cX4_faultOfTrade 114 = .ok (.iload_n 2, 1) := by decide +kernel
theorem dX4_faultOfTrade_115 : decode cX4_faultOfTrade 115 = .ok (.iaload, 1) := by decide +kernel
theorem dX4_faultOfTrade_116 : decode cX4_faultOfTrade 116 = .ok (.aload_n 0, 1) := by decide +kernel
theorem dX4_faultOfTrade_117 : decode cX4_faultOfTrade 117 = .ok (.iload_n 2, 1) := by decide +kernel
theorem dX4_faultOfTrade_118 : decode cX4_faultOfTrade 118 = .ok (.iload_n 3, 1) := by decide +kernel
theorem dX4_faultOfTrade_119 : decode cX4_faultOfTrade 119 = .ok (.iload 4, 2) := by decide +kernel
theorem dX4_faultOfTrade_121 : decode cX4_faultOfTrade 121 = .ok (.ineg, 1) := by decide +kernel
theorem dX4_faultOfTrade_122 : decode cX4_faultOfTrade 122 = .ok (.invokevirtual 84, 3) := by decide +kernel
theorem dX4_faultOfTrade_125 : decode cX4_faultOfTrade 125 = .ok (.if_icmp .ge 5, 3) := by decide +kernel
theorem dX4_faultOfTrade_128 : decode cX4_faultOfTrade 128 = .ok (.iconst 4, 1) := by decide +kernel
theorem dX4_faultOfTrade_129 : decode cX4_faultOfTrade 129 = .ok (.ireturn, 1) := by decide +kernel
theorem dX4_faultOfTrade_130 : decode cX4_faultOfTrade 130 = .ok (.iconst 0, 1) := by decide +kernel
theorem dX4_faultOfTrade_131 : decode cX4_faultOfTrade 131 = .ok (.ireturn, 1) := by decide +kernel
theorem dX4_faultOfQuote_0 : decode cX4_faultOfQuote 0 = .ok (.iload_n 1, 1) := by decide +kernel
theorem dX4_faultOfQuote_1 : decode cX4_faultOfQuote 1 = .ok (.aload_n 0, 1) := by decide +kernel
theorem dX4_faultOfQuote_2 : decode cX4_faultOfQuote 2 = .ok (.getfield 42, 3) := by decide +kernel
theorem dX4_faultOfQuote_5 : decode cX4_faultOfQuote 5 = .ok (.invokestatic 80, 3) := by decide +kernel
theorem dX4_faultOfQuote_8 : decode cX4_faultOfQuote 8 = .ok (.ifCond .ne 5, 3) := by decide +kernel
theorem dX4_faultOfQuote_11 : decode cX4_faultOfQuote 11 = .ok (.iconst 1, 1) := by decide +kernel
theorem dX4_faultOfQuote_12 : decode cX4_faultOfQuote 12 = .ok (.ireturn, 1) := by decide +kernel
theorem dX4_faultOfQuote_13 : decode cX4_faultOfQuote 13 = .ok (.iload_n 2, 1) := by decide +kernel
theorem dX4_faultOfQuote_14 : decode cX4_faultOfQuote 14 = .ok (.iconst 1, 1) := by decide +kernel
theorem dX4_faultOfQuote_15 : decode cX4_faultOfQuote 15 = .ok (.bipush 99, 2) := by decide +kernel
theorem dX4_faultOfQuote_17 : decode cX4_faultOfQuote 17 = .ok (.invokestatic 74, 3) := by decide +kernel
theorem dX4_faultOfQuote_20 : decode cX4_faultOfQuote 20 = .ok (.ifCond .eq 7, 3) := by decide +kernel
theorem dX4_faultOfQuote_23 : decode cX4_faultOfQuote 23 = .ok (.iconst 0, 1) := by decide +kernel
theorem dX4_faultOfQuote_24 : decode cX4_faultOfQuote 24 = .ok (.goto 4, 3) := by decide +kernel
theorem dX4_faultOfQuote_27 : decode cX4_faultOfQuote 27 = .ok (.iconst 2, 1) := by decide +kernel
theorem dX4_faultOfQuote_28 : decode cX4_faultOfQuote 28 = .ok (.ireturn, 1) := by decide +kernel
theorem dX4_faultOfBringing_0 : decode cX4_faultOfBringing 0 = .ok (.iload_n 1, 1) := by decide +kernel
theorem dX4_faultOfBringing_1 : decode cX4_faultOfBringing 1 = .ok (.aload_n 0, 1) := by decide +kernel
theorem dX4_faultOfBringing_2 : decode cX4_faultOfBringing 2 = .ok (.getfield 52, 3) := by decide +kernel
theorem dX4_faultOfBringing_5 : decode cX4_faultOfBringing 5 = .ok (.invokestatic 80, 3) := by decide +kernel
theorem dX4_faultOfBringing_8 : decode cX4_faultOfBringing 8 = .ok (.ifCond .ne 5, 3) := by decide +kernel
theorem dX4_faultOfBringing_11 : decode cX4_faultOfBringing 11 = .ok (.iconst 1, 1) := by decide +kernel
theorem dX4_faultOfBringing_12 : decode cX4_faultOfBringing 12 = .ok (.ireturn, 1) := by decide +kernel
theorem dX4_faultOfBringing_13 : decode cX4_faultOfBringing 13 = .ok (.iload_n 2, 1) := by decide +kernel
theorem dX4_faultOfBringing_14 : decode cX4_faultOfBringing 14 = .ok (.iconst 1, 1) := by decide +kernel
theorem dX4_faultOfBringing_15 : decode cX4_faultOfBringing 15 = .ok (.sipush 9999, 3) := by decide +kernel
theorem dX4_faultOfBringing_18 : decode cX4_faultOfBringing 18 = .ok (.invokestatic 74, 3) := by decide +kernel
theorem dX4_faultOfBringing_21 : decode cX4_faultOfBringing 21 = .ok (.ifCond .ne 5, 3) := by decide +kernel
theorem dX4_faultOfBringing_24 : decode cX4_faultOfBringing 24 = .ok (.iconst 2, 1) := by decide +kernel
theorem dX4_faultOfBringing_25 : decode cX4_faultOfBringing 25 = .ok (.ireturn, 1) := by decide +kernel
theorem dX4_faultOfBringing_26 : decode cX4_faultOfBringing 26 = .ok (.aload_n 0, 1) := by decide +kernel
theorem dX4_faultOfBringing_27 : decode cX4_faultOfBringing 27 = .ok (.getfield 24, 3) := by decide +kernel
theorem dX4_faultOfBringing_30 : decode cX4_faultOfBringing 30 = .ok (.iload_n 1, 1) := by decide +kernel
theorem dX4_faultOfBringing_31 : decode cX4_faultOfBringing 31 = .ok (.iaload, 1) := by decide +kernel
theorem dX4_faultOfBringing_32 : decode cX4_faultOfBringing 32 = .ok (.iconst 2, 1) := by decide +kernel
theorem dX4_faultOfBringing_33 : decode cX4_faultOfBringing 33 = .ok (.if_icmp .ne 7, 3) := by decide +kernel
theorem dX4_faultOfBringing_36 : decode cX4_faultOfBringing 36 = .ok (.iconst 3, 1) := by decide +kernel
theorem dX4_faultOfBringing_37 : decode cX4_faultOfBringing 37 = .ok (.goto 4, 3) := by decide +kernel
theorem dX4_faultOfBringing_40 : decode cX4_faultOfBringing 40 = .ok (.iconst 0, 1) := by decide +kernel
theorem dX4_faultOfBringing_41 : decode cX4_faultOfBringing 41 = .ok (.ireturn, 1) := by decide +kernel
theorem dX4_faultOfTaking_0 : decode cX4_faultOfTaking 0 = .ok (.aload_n 0, 1) := by decide +kernel
theorem dX4_faultOfTaking_1 : decode cX4_faultOfTaking 1 = .ok (.iload_n 1, 1) := by decide +kernel
theorem dX4_faultOfTaking_2 : decode cX4_faultOfTaking 2 = .ok (.iload_n 2, 1) := by decide +kernel
theorem dX4_faultOfTaking_3 : decode cX4_faultOfTaking 3 = .ok (.invokevirtual 88, 3) := by decide +kernel
theorem dX4_faultOfTaking_6 : decode cX4_faultOfTaking 6 = .ok (.istore_n 3, 1) := by decide +kernel
theorem dX4_faultOfTaking_7 : decode cX4_faultOfTaking 7 = .ok (.iload_n 3, 1) := by decide +kernel
theorem dX4_faultOfTaking_8 : decode cX4_faultOfTaking 8 = .ok (.ifCond .eq 5, 3) := by decide +kernel
theorem dX4_faultOfTaking_11 : decode cX4_faultOfTaking 11 = .ok (.iload_n 3, 1) := by decide +kernel
theorem dX4_faultOfTaking_12 : decode cX4_faultOfTaking 12 = .ok (.ireturn, 1) := by decide +kernel
theorem dX4_faultOfTaking_13 : decode cX4_faultOfTaking 13 = .ok (.aload_n 0, 1) := by decide +kernel
theorem dX4_faultOfTaking_14 : decode cX4_faultOfTaking 14 = .ok (.getfield 21, 3) := by decide +kernel
theorem dX4_faultOfTaking_17 : decode cX4_faultOfTaking 17 = .ok (.iload_n 1, 1) := by decide +kernel
theorem dX4_faultOfTaking_18 : decode cX4_faultOfTaking 18 = .ok (.iaload, 1) := by decide +kernel
theorem dX4_faultOfTaking_19 : decode cX4_faultOfTaking 19 = .ok (.iload_n 2, 1) := by decide +kernel
theorem dX4_faultOfTaking_20 : decode cX4_faultOfTaking 20 = .ok (.isub, 1) := by decide +kernel
theorem dX4_faultOfTaking_21 : decode cX4_faultOfTaking 21 = .ok (.aload_n 0, 1) := by decide +kernel
theorem dX4_faultOfTaking_22 : decode cX4_faultOfTaking 22 = .ok (.iload_n 1, 1) := by decide +kernel
theorem dX4_faultOfTaking_23 : decode cX4_faultOfTaking 23 = .ok (.invokevirtual 92, 3) := by decide +kernel
theorem dX4_faultOfTaking_26 : decode cX4_faultOfTaking 26 = .ok (.if_icmp .ge 7, 3) := by decide +kernel
theorem dX4_faultOfTaking_29 : decode cX4_faultOfTaking 29 = .ok (.iconst 4, 1) := by decide +kernel
theorem dX4_faultOfTaking_30 : decode cX4_faultOfTaking 30 = .ok (.goto 4, 3) := by decide +kernel
theorem dX4_faultOfTaking_33 : decode cX4_faultOfTaking 33 = .ok (.iconst 0, 1) := by decide +kernel
theorem dX4_faultOfTaking_34 : decode cX4_faultOfTaking 34 = .ok (.ireturn, 1) := by decide +kernel
theorem dX4_placeHorizon_0 : decode cX4_placeHorizon 0 = .ok (.aload_n 0, 1) := by decide +kernel
theorem dX4_placeHorizon_1 : decode cX4_placeHorizon 1 = .ok (.getfield 9, 3) := by decide +kernel
theorem dX4_placeHorizon_4 : decode cX4_placeHorizon 4 = .ok (.aload_n 0, 1) := by decide +kernel
theorem dX4_placeHorizon_5 : decode cX4_placeHorizon 5 = .ok (.getfield 42, 3) := by decide +kernel
theorem dX4_placeHorizon_8 : decode cX4_placeHorizon 8 = .ok (.iload_n 1, 1) := by decide +kernel
theorem dX4_placeHorizon_9 : decode cX4_placeHorizon 9 = .ok (.iastore, 1) := by decide +kernel
theorem dX4_placeHorizon_10 : decode cX4_placeHorizon 10 = .ok (.aload_n 0, 1) := by decide +kernel
theorem dX4_placeHorizon_11 : decode cX4_placeHorizon 11 = .ok (.getfield 15, 3) := by decide +kernel
theorem dX4_placeHorizon_14 : decode cX4_placeHorizon 14 = .ok (.aload_n 0, 1) := by decide +kernel
theorem dX4_placeHorizon_15 : decode cX4_placeHorizon 15 = .ok (.getfield 42, 3) := by decide +kernel
theorem dX4_placeHorizon_18 : decode cX4_placeHorizon 18 = .ok (.iload_n 1, 1) := by decide +kernel
theorem dX4_placeHorizon_19 : decode cX4_placeHorizon 19 = .ok (.iastore, 1) := by decide +kernel
theorem dX4_placeHorizon_20 : decode cX4_placeHorizon 20 = .ok (.aload_n 0, 1) := by decide +kernel
theorem dX4_placeHorizon_21 : decode cX4_placeHorizon 21 = .ok (.getfield 18, 3) := by decide +kernel
theorem dX4_placeHorizon_24 : decode cX4_placeHorizon 24 = .ok (.aload_n 0, 1) := by decide +kernel
theorem dX4_placeHorizon_25 : decode cX4_placeHorizon 25 = .ok (.getfield 42, 3) := by decide +kernel
theorem dX4_placeHorizon_28 : decode cX4_placeHorizon 28 = .ok (.iload_n 2, 1) := by decide +kernel
theorem dX4_placeHorizon_29 : decode cX4_placeHorizon 29 = .ok (.iastore, 1) := by decide +kernel
theorem dX4_placeHorizon_30 : decode cX4_placeHorizon 30 = .ok (.aload_n 0, 1) := by decide +kernel
theorem dX4_placeHorizon_31 : decode cX4_placeHorizon 31 = .ok (.dup, 1) := by decide +kernel
theorem dX4_placeHorizon_32 : decode cX4_placeHorizon 32 = .ok (.getfield 42, 3) := by decide +kernel
theorem dX4_placeHorizon_35 : decode cX4_placeHorizon 35 = .ok (.iconst 1, 1) := by decide +kernel
theorem dX4_placeHorizon_36 : decode cX4_placeHorizon 36 = .ok (.iadd, 1) := by decide +kernel
theorem dX4_placeHorizon_37 : decode cX4_placeHorizon 37 = .ok (.putfield 42, 3) := by decide +kernel
theorem dX4_placeHorizon_40 : decode cX4_placeHorizon 40 = .ok (.aload_n 0, 1) := by decide +kernel
theorem dX4_placeHorizon_41 : decode cX4_placeHorizon 41 = .ok (.getfield 42, 3) := by decide +kernel
theorem dX4_placeHorizon_44 : decode cX4_placeHorizon 44 = .ok (.iconst 1, 1) := by decide +kernel
theorem dX4_placeHorizon_45 : decode cX4_placeHorizon 45 = .ok (.isub, 1) := by decide +kernel
theorem dX4_placeHorizon_46 : decode cX4_placeHorizon 46 = .ok (.ireturn, 1) := by decide +kernel
theorem dX4_placeTrader_0 : decode cX4_placeTrader 0 = .ok (.aload_n 0, 1) := by decide +kernel
theorem dX4_placeTrader_1 : decode cX4_placeTrader 1 = .ok (.getfield 21, 3) := by decide +kernel
theorem dX4_placeTrader_4 : decode cX4_placeTrader 4 = .ok (.aload_n 0, 1) := by decide +kernel
theorem dX4_placeTrader_5 : decode cX4_placeTrader 5 = .ok (.getfield 52, 3) := by decide +kernel
theorem dX4_placeTrader_8 : decode cX4_placeTrader 8 = .ok (.iload_n 1, 1) := by decide +kernel
theorem dX4_placeTrader_9 : decode cX4_placeTrader 9 = .ok (.iastore, 1) := by decide +kernel
theorem dX4_placeTrader_10 : decode cX4_placeTrader 10 = .ok (.aload_n 0, 1) := by decide +kernel
theorem dX4_placeTrader_11 : decode cX4_placeTrader 11 = .ok (.getfield 24, 3) := by decide +kernel
theorem dX4_placeTrader_14 : decode cX4_placeTrader 14 = .ok (.aload_n 0, 1) := by decide +kernel
theorem dX4_placeTrader_15 : decode cX4_placeTrader 15 = .ok (.getfield 52, 3) := by decide +kernel
theorem dX4_placeTrader_18 : decode cX4_placeTrader 18 = .ok (.iconst 0, 1) := by decide +kernel
theorem dX4_placeTrader_19 : decode cX4_placeTrader 19 = .ok (.iastore, 1) := by decide +kernel
theorem dX4_placeTrader_20 : decode cX4_placeTrader 20 = .ok (.aload_n 0, 1) := by decide +kernel
theorem dX4_placeTrader_21 : decode cX4_placeTrader 21 = .ok (.dup, 1) := by decide +kernel
theorem dX4_placeTrader_22 : decode cX4_placeTrader 22 = .ok (.getfield 67, 3) := by decide +kernel
theorem dX4_placeTrader_25 : decode cX4_placeTrader 25 = .ok (.iload_n 1, 1) := by decide +kernel
theorem dX4_placeTrader_26 : decode cX4_placeTrader 26 = .ok (.i2l, 1) := by decide +kernel
theorem dX4_placeTrader_27 : decode cX4_placeTrader 27 = .ok (.ladd, 1) := by decide +kernel
theorem dX4_placeTrader_28 : decode cX4_placeTrader 28 = .ok (.putfield 67, 3) := by decide +kernel
theorem dX4_placeTrader_31 : decode cX4_placeTrader 31 = .ok (.aload_n 0, 1) := by decide +kernel
theorem dX4_placeTrader_32 : decode cX4_placeTrader 32 = .ok (.dup, 1) := by decide +kernel
theorem dX4_placeTrader_33 : decode cX4_placeTrader 33 = .ok (.getfield 52, 3) := by decide +kernel
theorem dX4_placeTrader_36 : decode cX4_placeTrader 36 = .ok (.iconst 1, 1) := by decide +kernel
theorem dX4_placeTrader_37 : decode cX4_placeTrader 37 = .ok (.iadd, 1) := by decide +kernel
theorem dX4_placeTrader_38 : decode cX4_placeTrader 38 = .ok (.putfield 52, 3) := by decide +kernel
theorem dX4_placeTrader_41 : decode cX4_placeTrader 41 = .ok (.aload_n 0, 1) := by decide +kernel
theorem dX4_placeTrader_42 : decode cX4_placeTrader 42 = .ok (.getfield 52, 3) := by decide +kernel
theorem dX4_placeTrader_45 : decode cX4_placeTrader 45 = .ok (.iconst 1, 1) := by decide +kernel
theorem dX4_placeTrader_46 : decode cX4_placeTrader 46 = .ok (.isub, 1) := by decide +kernel
theorem dX4_placeTrader_47 : decode cX4_placeTrader 47 = .ok (.ireturn, 1) := by decide +kernel
theorem dX4_conclude_0 : decode cX4_conclude 0 = .ok (.aload_n 0, 1) := by decide +kernel
theorem dX4_conclude_1 : decode cX4_conclude 1 = .ok (.getfield 27, 3) := by decide +kernel
theorem dX4_conclude_4 : decode cX4_conclude 4 = .ok (.aload_n 0, 1) := by decide +kernel
theorem dX4_conclude_5 : decode cX4_conclude 5 = .ok (.getfield 55, 3) := by decide +kernel
theorem dX4_conclude_8 : decode cX4_conclude 8 = .ok (.iload_n 1, 1) := by decide +kernel
theorem dX4_conclude_9 : decode cX4_conclude 9 = .ok (.iastore, 1) := by decide +kernel
theorem dX4_conclude_10 : decode cX4_conclude 10 = .ok (.aload_n 0, 1) := by decide +kernel
theorem dX4_conclude_11 : decode cX4_conclude 11 = .ok (.getfield 30, 3) := by decide +kernel
theorem dX4_conclude_14 : decode cX4_conclude 14 = .ok (.aload_n 0, 1) := by decide +kernel
theorem dX4_conclude_15 : decode cX4_conclude 15 = .ok (.getfield 55, 3) := by decide +kernel
theorem dX4_conclude_18 : decode cX4_conclude 18 = .ok (.iload_n 2, 1) := by decide +kernel
theorem dX4_conclude_19 : decode cX4_conclude 19 = .ok (.iastore, 1) := by decide +kernel
theorem dX4_conclude_20 : decode cX4_conclude 20 = .ok (.aload_n 0, 1) := by decide +kernel
theorem dX4_conclude_21 : decode cX4_conclude 21 = .ok (.getfield 33, 3) := by decide +kernel
theorem dX4_conclude_24 : decode cX4_conclude 24 = .ok (.aload_n 0, 1) := by decide +kernel
theorem dX4_conclude_25 : decode cX4_conclude 25 = .ok (.getfield 55, 3) := by decide +kernel
theorem dX4_conclude_28 : decode cX4_conclude 28 = .ok (.iload_n 3, 1) := by decide +kernel
theorem dX4_conclude_29 : decode cX4_conclude 29 = .ok (.iastore, 1) := by decide +kernel
theorem dX4_conclude_30 : decode cX4_conclude 30 = .ok (.aload_n 0, 1) := by decide +kernel
theorem dX4_conclude_31 : decode cX4_conclude 31 = .ok (.getfield 36, 3) := by decide +kernel
theorem dX4_conclude_34 : decode cX4_conclude 34 = .ok (.aload_n 0, 1) := by decide +kernel
theorem dX4_conclude_35 : decode cX4_conclude 35 = .ok (.getfield 55, 3) := by decide +kernel
theorem dX4_conclude_38 : decode cX4_conclude 38 = .ok (.iload 4, 2) := by decide +kernel
theorem dX4_conclude_40 : decode cX4_conclude 40 = .ok (.iastore, 1) := by decide +kernel
theorem dX4_conclude_41 : decode cX4_conclude 41 = .ok (.aload_n 0, 1) := by decide +kernel
theorem dX4_conclude_42 : decode cX4_conclude 42 = .ok (.getfield 39, 3) := by decide +kernel
theorem dX4_conclude_45 : decode cX4_conclude 45 = .ok (.aload_n 0, 1) := by decide +kernel
theorem dX4_conclude_46 : decode cX4_conclude 46 = .ok (.getfield 55, 3) := by decide +kernel
theorem dX4_conclude_49 : decode cX4_conclude 49 = .ok (.aload_n 0, 1) := by decide +kernel
theorem dX4_conclude_50 : decode cX4_conclude 50 = .ok (.getfield 58, 3) := by decide +kernel
theorem dX4_conclude_53 : decode cX4_conclude 53 = .ok (.iload 5, 2) := by decide +kernel
theorem dX4_conclude_55 : decode cX4_conclude 55 = .ok (.iadd, 1) := by decide +kernel
theorem dX4_conclude_56 : decode cX4_conclude 56 = .ok (.iastore, 1) := by decide +kernel
theorem dX4_conclude_57 : decode cX4_conclude 57 = .ok (.aload_n 0, 1) := by decide +kernel
theorem dX4_conclude_58 : decode cX4_conclude 58 = .ok (.dup, 1) := by decide +kernel
theorem dX4_conclude_59 : decode cX4_conclude 59 = .ok (.getfield 55, 3) := by decide +kernel
theorem dX4_conclude_62 : decode cX4_conclude 62 = .ok (.iconst 1, 1) := by decide +kernel
theorem dX4_conclude_63 : decode cX4_conclude 63 = .ok (.iadd, 1) := by decide +kernel
theorem dX4_conclude_64 : decode cX4_conclude 64 = .ok (.putfield 55, 3) := by decide +kernel
theorem dX4_conclude_67 : decode cX4_conclude 67 = .ok (.aload_n 0, 1) := by decide +kernel
theorem dX4_conclude_68 : decode cX4_conclude 68 = .ok (.getfield 55, 3) := by decide +kernel
theorem dX4_conclude_71 : decode cX4_conclude 71 = .ok (.iconst 1, 1) := by decide +kernel
theorem dX4_conclude_72 : decode cX4_conclude 72 = .ok (.isub, 1) := by decide +kernel
theorem dX4_conclude_73 : decode cX4_conclude 73 = .ok (.ireturn, 1) := by decide +kernel
theorem dX4_replaceQuote_0 : decode cX4_replaceQuote 0 = .ok (.aload_n 0, 1) := by decide +kernel
theorem dX4_replaceQuote_1 : decode cX4_replaceQuote 1 = .ok (.getfield 15, 3) := by decide +kernel
theorem dX4_replaceQuote_4 : decode cX4_replaceQuote 4 = .ok (.iload_n 1, 1) := by decide +kernel
theorem dX4_replaceQuote_5 : decode cX4_replaceQuote 5 = .ok (.iaload, 1) := by decide +kernel
theorem dX4_replaceQuote_6 : decode cX4_replaceQuote 6 = .ok (.istore_n 3, 1) := by decide +kernel
theorem dX4_replaceQuote_7 : decode cX4_replaceQuote 7 = .ok (.aload_n 0, 1) := by decide +kernel
theorem dX4_replaceQuote_8 : decode cX4_replaceQuote 8 = .ok (.getfield 15, 3) := by decide +kernel
theorem dX4_replaceQuote_11 : decode cX4_replaceQuote 11 = .ok (.iload_n 1, 1) := by decide +kernel
theorem dX4_replaceQuote_12 : decode cX4_replaceQuote 12 = .ok (.iload_n 2, 1) := by decide +kernel
theorem dX4_replaceQuote_13 : decode cX4_replaceQuote 13 = .ok (.iastore, 1) := by decide +kernel
theorem dX4_replaceQuote_14 : decode cX4_replaceQuote 14 = .ok (.iload_n 3, 1) := by decide +kernel
theorem dX4_replaceQuote_15 : decode cX4_replaceQuote 15 = .ok (.ireturn, 1) := by decide +kernel
theorem dX4_bringMoney_0 : decode cX4_bringMoney 0 = .ok (.aload_n 0, 1) := by decide +kernel
theorem dX4_bringMoney_1 : decode cX4_bringMoney 1 = .ok (.getfield 21, 3) := by decide +kernel
theorem dX4_bringMoney_4 : decode cX4_bringMoney 4 = .ok (.iload_n 1, 1) := by decide +kernel
theorem dX4_bringMoney_5 : decode cX4_bringMoney 5 = .ok (.dup2, 1) := by decide +kernel
theorem dX4_bringMoney_6 : decode cX4_bringMoney 6 = .ok (.iaload, 1) := by decide +kernel
theorem dX4_bringMoney_7 : decode cX4_bringMoney 7 = .ok (.iload_n 2, 1) := by decide +kernel
theorem dX4_bringMoney_8 : decode cX4_bringMoney 8 = .ok (.iadd, 1) := by decide +kernel
theorem dX4_bringMoney_9 : decode cX4_bringMoney 9 = .ok (.iastore, 1) := by decide +kernel
theorem dX4_bringMoney_10 : decode cX4_bringMoney 10 = .ok (.aload_n 0, 1) := by decide +kernel
theorem dX4_bringMoney_11 : decode cX4_bringMoney 11 = .ok (.dup, 1) := by decide +kernel
theorem dX4_bringMoney_12 : decode cX4_bringMoney 12 = .ok (.getfield 67, 3) := by decide +kernel
theorem dX4_bringMoney_15 : decode cX4_bringMoney 15 = .ok (.iload_n 2, 1) := by decide +kernel
theorem dX4_bringMoney_16 : decode cX4_bringMoney 16 = .ok (.i2l, 1) := by decide +kernel
theorem dX4_bringMoney_17 : decode cX4_bringMoney 17 = .ok (.ladd, 1) := by decide +kernel
theorem dX4_bringMoney_18 : decode cX4_bringMoney 18 = .ok (.putfield 67, 3) := by decide +kernel
theorem dX4_bringMoney_21 : decode cX4_bringMoney 21 = .ok (.aload_n 0, 1) := by decide +kernel
theorem dX4_bringMoney_22 : decode cX4_bringMoney 22 = .ok (.getfield 21, 3) := by decide +kernel
theorem dX4_bringMoney_25 : decode cX4_bringMoney 25 = .ok (.iload_n 1, 1) := by decide +kernel
theorem dX4_bringMoney_26 : decode cX4_bringMoney 26 = .ok (.iaload, 1) := by decide +kernel
theorem dX4_bringMoney_27 : decode cX4_bringMoney 27 = .ok (.ireturn, 1) := by decide +kernel
theorem dX4_takeMoney_0 : decode cX4_takeMoney 0 = .ok (.aload_n 0, 1) := by decide +kernel
theorem dX4_takeMoney_1 : decode cX4_takeMoney 1 = .ok (.getfield 21, 3) := by decide +kernel
theorem dX4_takeMoney_4 : decode cX4_takeMoney 4 = .ok (.iload_n 1, 1) := by decide +kernel
theorem dX4_takeMoney_5 : decode cX4_takeMoney 5 = .ok (.dup2, 1) := by decide +kernel
theorem dX4_takeMoney_6 : decode cX4_takeMoney 6 = .ok (.iaload, 1) := by decide +kernel
theorem dX4_takeMoney_7 : decode cX4_takeMoney 7 = .ok (.iload_n 2, 1) := by decide +kernel
theorem dX4_takeMoney_8 : decode cX4_takeMoney 8 = .ok (.isub, 1) := by decide +kernel
theorem dX4_takeMoney_9 : decode cX4_takeMoney 9 = .ok (.iastore, 1) := by decide +kernel
theorem dX4_takeMoney_10 : decode cX4_takeMoney 10 = .ok (.aload_n 0, 1) := by decide +kernel
theorem dX4_takeMoney_11 : decode cX4_takeMoney 11 = .ok (.dup, 1) := by decide +kernel
theorem dX4_takeMoney_12 : decode cX4_takeMoney 12 = .ok (.getfield 71, 3) := by decide +kernel
theorem dX4_takeMoney_15 : decode cX4_takeMoney 15 = .ok (.iload_n 2, 1) := by decide +kernel
theorem dX4_takeMoney_16 : decode cX4_takeMoney 16 = .ok (.i2l, 1) := by decide +kernel
theorem dX4_takeMoney_17 : decode cX4_takeMoney 17 = .ok (.ladd, 1) := by decide +kernel
theorem dX4_takeMoney_18 : decode cX4_takeMoney 18 = .ok (.putfield 71, 3) := by decide +kernel
theorem dX4_takeMoney_21 : decode cX4_takeMoney 21 = .ok (.aload_n 0, 1) := by decide +kernel
theorem dX4_takeMoney_22 : decode cX4_takeMoney 22 = .ok (.getfield 21, 3) := by decide +kernel
theorem dX4_takeMoney_25 : decode cX4_takeMoney 25 = .ok (.iload_n 1, 1) := by decide +kernel
theorem dX4_takeMoney_26 : decode cX4_takeMoney 26 = .ok (.iaload, 1) := by decide +kernel
theorem dX4_takeMoney_27 : decode cX4_takeMoney 27 = .ok (.ireturn, 1) := by decide +kernel
theorem dX4_giveToFund_0 : decode cX4_giveToFund 0 = .ok (.aload_n 0, 1) := by decide +kernel
theorem dX4_giveToFund_1 : decode cX4_giveToFund 1 = .ok (.getfield 21, 3) := by decide +kernel
theorem dX4_giveToFund_4 : decode cX4_giveToFund 4 = .ok (.iload_n 1, 1) := by decide +kernel
theorem dX4_giveToFund_5 : decode cX4_giveToFund 5 = .ok (.dup2, 1) := by decide +kernel
theorem dX4_giveToFund_6 : decode cX4_giveToFund 6 = .ok (.iaload, 1) := by decide +kernel
theorem dX4_giveToFund_7 : decode cX4_giveToFund 7 = .ok (.iload_n 2, 1) := by decide +kernel
theorem dX4_giveToFund_8 : decode cX4_giveToFund 8 = .ok (.isub, 1) := by decide +kernel
theorem dX4_giveToFund_9 : decode cX4_giveToFund 9 = .ok (.iastore, 1) := by decide +kernel
theorem dX4_giveToFund_10 : decode cX4_giveToFund 10 = .ok (.aload_n 0, 1) := by decide +kernel
theorem dX4_giveToFund_11 : decode cX4_giveToFund 11 = .ok (.dup, 1) := by decide +kernel
theorem dX4_giveToFund_12 : decode cX4_giveToFund 12 = .ok (.getfield 61, 3) := by decide +kernel
theorem dX4_giveToFund_15 : decode cX4_giveToFund 15 = .ok (.iload_n 2, 1) := by decide +kernel
theorem dX4_giveToFund_16 : decode cX4_giveToFund 16 = .ok (.iadd, 1) := by decide +kernel
theorem dX4_giveToFund_17 : decode cX4_giveToFund 17 = .ok (.putfield 61, 3) := by decide +kernel
theorem dX4_giveToFund_20 : decode cX4_giveToFund 20 = .ok (.aload_n 0, 1) := by decide +kernel
theorem dX4_giveToFund_21 : decode cX4_giveToFund 21 = .ok (.getfield 61, 3) := by decide +kernel
theorem dX4_giveToFund_24 : decode cX4_giveToFund 24 = .ok (.ireturn, 1) := by decide +kernel
theorem dX4_settleVariations_0 : decode cX4_settleVariations 0 = .ok (.iconst 0, 1) := by decide +kernel
theorem dX4_settleVariations_1 : decode cX4_settleVariations 1 = .ok (.istore_n 1, 1) := by decide +kernel
theorem dX4_settleVariations_2 : decode cX4_settleVariations 2 = .ok (.iload_n 1, 1) := by decide +kernel
theorem dX4_settleVariations_3 : decode cX4_settleVariations 3 = .ok (.aload_n 0, 1) := by decide +kernel
theorem dX4_settleVariations_4 : decode cX4_settleVariations 4 = .ok (.getfield 52, 3) := by decide +kernel
theorem dX4_settleVariations_7 : decode cX4_settleVariations 7 = .ok (.if_icmp .ge 23, 3) := by decide +kernel
theorem dX4_settleVariations_10 : decode cX4_settleVariations 10 = .ok (.aload_n 0, 1) := by decide +kernel
theorem dX4_settleVariations_11 : decode cX4_settleVariations 11 = .ok (.getfield 21, 3) := by decide +kernel
theorem dX4_settleVariations_14 : decode cX4_settleVariations 14 = .ok (.iload_n 1, 1) := by decide +kernel
theorem dX4_settleVariations_15 : decode cX4_settleVariations 15 = .ok (.dup2, 1) := by decide +kernel
theorem dX4_settleVariations_16 : decode cX4_settleVariations 16 = .ok (.iaload, 1) := by decide +kernel
theorem dX4_settleVariations_17 : decode cX4_settleVariations 17 = .ok (.aload_n 0, 1) := by decide +kernel
theorem dX4_settleVariations_18 : decode cX4_settleVariations 18 = .ok (.iload_n 1, 1) := by decide +kernel
theorem dX4_settleVariations_19 : decode cX4_settleVariations 19 = .ok (.invokevirtual 96, 3) := by decide +kernel
theorem dX4_settleVariations_22 : decode cX4_settleVariations 22 = .ok (.iadd, 1) := by decide +kernel
theorem dX4_settleVariations_23 : decode cX4_settleVariations 23 = .ok (.iastore, 1) := by decide +kernel
theorem dX4_settleVariations_24 : decode cX4_settleVariations 24 = .ok (.iinc 1 1, 3) := by decide +kernel
theorem dX4_settleVariations_27 : decode cX4_settleVariations 27 = .ok (.goto (-25), 3) := by decide +kernel
theorem dX4_settleVariations_30 : decode cX4_settleVariations 30 = .ok (.iconst 0, 1) := by decide +kernel
theorem dX4_settleVariations_31 : decode cX4_settleVariations 31 = .ok (.istore_n 1, 1) := by decide +kernel
theorem dX4_settleVariations_32 : decode cX4_settleVariations 32 = .ok (.iload_n 1, 1) := by decide +kernel
theorem dX4_settleVariations_33 : decode cX4_settleVariations 33 = .ok (.aload_n 0, 1) := by decide +kernel
theorem dX4_settleVariations_34 : decode cX4_settleVariations 34 = .ok (.getfield 42, 3) := by decide +kernel
theorem dX4_settleVariations_37 : decode cX4_settleVariations 37 = .ok (.if_icmp .ge 21, 3) := by decide +kernel
theorem dX4_settleVariations_40 : decode cX4_settleVariations 40 = .ok (.aload_n 0, 1) := by decide +kernel
theorem dX4_settleVariations_41 : decode cX4_settleVariations 41 = .ok (.getfield 9, 3) := by decide +kernel
theorem dX4_settleVariations_44 : decode cX4_settleVariations 44 = .ok (.iload_n 1, 1) := by decide +kernel
theorem dX4_settleVariations_45 : decode cX4_settleVariations 45 = .ok (.aload_n 0, 1) := by decide +kernel
theorem dX4_settleVariations_46 : decode cX4_settleVariations 46 = .ok (.getfield 15, 3) := by decide +kernel
theorem dX4_settleVariations_49 : decode cX4_settleVariations 49 = .ok (.iload_n 1, 1) := by decide +kernel
theorem dX4_settleVariations_50 : decode cX4_settleVariations 50 = .ok (.iaload, 1) := by decide +kernel
theorem dX4_settleVariations_51 : decode cX4_settleVariations 51 = .ok (.iastore, 1) := by decide +kernel
theorem dX4_settleVariations_52 : decode cX4_settleVariations 52 = .ok (.iinc 1 1, 3) := by decide +kernel
theorem dX4_settleVariations_55 : decode cX4_settleVariations 55 = .ok (.goto (-23), 3) := by decide +kernel
theorem dX4_settleVariations_58 : decode cX4_settleVariations 58 = .ok (.return_, 1) := by decide +kernel
theorem dX4_endDay_0 : decode cX4_endDay 0 = .ok (.aload_n 0, 1) := by decide +kernel
theorem dX4_endDay_1 : decode cX4_endDay 1 = .ok (.dup, 1) := by decide +kernel
theorem dX4_endDay_2 : decode cX4_endDay 2 = .ok (.getfield 58, 3) := by decide +kernel
theorem dX4_endDay_5 : decode cX4_endDay 5 = .ok (.iconst 1, 1) := by decide +kernel
theorem dX4_endDay_6 : decode cX4_endDay 6 = .ok (.iadd, 1) := by decide +kernel
theorem dX4_endDay_7 : decode cX4_endDay 7 = .ok (.putfield 58, 3) := by decide +kernel
theorem dX4_endDay_10 : decode cX4_endDay 10 = .ok (.aload_n 0, 1) := by decide +kernel
theorem dX4_endDay_11 : decode cX4_endDay 11 = .ok (.getfield 55, 3) := by decide +kernel
theorem dX4_endDay_14 : decode cX4_endDay 14 = .ok (.iconst 1, 1) := by decide +kernel
theorem dX4_endDay_15 : decode cX4_endDay 15 = .ok (.isub, 1) := by decide +kernel
theorem dX4_endDay_16 : decode cX4_endDay 16 = .ok (.istore_n 1, 1) := by decide +kernel
theorem dX4_endDay_17 : decode cX4_endDay 17 = .ok (.iload_n 1, 1) := by decide +kernel
theorem dX4_endDay_18 : decode cX4_endDay 18 = .ok (.ifCond .lt 27, 3) := by decide +kernel
theorem dX4_endDay_21 : decode cX4_endDay 21 = .ok (.aload_n 0, 1) := by decide +kernel
theorem dX4_endDay_22 : decode cX4_endDay 22 = .ok (.getfield 39, 3) := by decide +kernel
theorem dX4_endDay_25 : decode cX4_endDay 25 = .ok (.iload_n 1, 1) := by decide +kernel
theorem dX4_endDay_26 : decode cX4_endDay 26 = .ok (.iaload, 1) := by decide +kernel
theorem dX4_endDay_27 : decode cX4_endDay 27 = .ok (.aload_n 0, 1) := by decide +kernel
theorem dX4_endDay_28 : decode cX4_endDay 28 = .ok (.getfield 58, 3) := by decide +kernel
theorem dX4_endDay_31 : decode cX4_endDay 31 = .ok (.if_icmp .ne 8, 3) := by decide +kernel
theorem dX4_endDay_34 : decode cX4_endDay 34 = .ok (.aload_n 0, 1) := by decide +kernel
theorem dX4_endDay_35 : decode cX4_endDay 35 = .ok (.iload_n 1, 1) := by decide +kernel
theorem dX4_endDay_36 : decode cX4_endDay 36 = .ok (.invokevirtual 99, 3) := by decide +kernel
theorem dX4_endDay_39 : decode cX4_endDay 39 = .ok (.iinc 1 (-1), 3) := by decide +kernel
theorem dX4_endDay_42 : decode cX4_endDay 42 = .ok (.goto (-25), 3) := by decide +kernel
theorem dX4_endDay_45 : decode cX4_endDay 45 = .ok (.return_, 1) := by decide +kernel
theorem dX4_callTraders_0 : decode cX4_callTraders 0 = .ok (.iconst 0, 1) := by decide +kernel
theorem dX4_callTraders_1 : decode cX4_callTraders 1 = .ok (.istore_n 1, 1) := by decide +kernel
theorem dX4_callTraders_2 : decode cX4_callTraders 2 = .ok (.iconst 0, 1) := by decide +kernel
theorem dX4_callTraders_3 : decode cX4_callTraders 3 = .ok (.istore_n 2, 1) := by decide +kernel
theorem dX4_callTraders_4 : decode cX4_callTraders 4 = .ok (.iload_n 2, 1) := by decide +kernel
theorem dX4_callTraders_5 : decode cX4_callTraders 5 = .ok (.aload_n 0, 1) := by decide +kernel
theorem dX4_callTraders_6 : decode cX4_callTraders 6 = .ok (.getfield 52, 3) := by decide +kernel
theorem dX4_callTraders_9 : decode cX4_callTraders 9 = .ok (.if_icmp .ge 72, 3) := by decide +kernel
theorem dX4_callTraders_12 : decode cX4_callTraders 12 = .ok (.aload_n 0, 1) := by decide +kernel
theorem dX4_callTraders_13 : decode cX4_callTraders 13 = .ok (.getfield 24, 3) := by decide +kernel
theorem dX4_callTraders_16 : decode cX4_callTraders 16 = .ok (.iload_n 2, 1) := by decide +kernel
theorem dX4_callTraders_17 : decode cX4_callTraders 17 = .ok (.iaload, 1) := by decide +kernel
theorem dX4_callTraders_18 : decode cX4_callTraders 18 = .ok (.iconst 2, 1) := by decide +kernel
theorem dX4_callTraders_19 : decode cX4_callTraders 19 = .ok (.if_icmp .ne 6, 3) := by decide +kernel
theorem dX4_callTraders_22 : decode cX4_callTraders 22 = .ok (.goto 53, 3) := by decide +kernel
theorem dX4_callTraders_25 : decode cX4_callTraders 25 = .ok (.aload_n 0, 1) := by decide +kernel
theorem dX4_callTraders_26 : decode cX4_callTraders 26 = .ok (.getfield 21, 3) := by decide +kernel
theorem dX4_callTraders_29 : decode cX4_callTraders 29 = .ok (.iload_n 2, 1) := by decide +kernel
theorem dX4_callTraders_30 : decode cX4_callTraders 30 = .ok (.iaload, 1) := by decide +kernel
theorem dX4_callTraders_31 : decode cX4_callTraders 31 = .ok (.aload_n 0, 1) := by decide +kernel
theorem dX4_callTraders_32 : decode cX4_callTraders 32 = .ok (.iload_n 2, 1) := by decide +kernel
theorem dX4_callTraders_33 : decode cX4_callTraders 33 = .ok (.invokevirtual 92, 3) := by decide +kernel
theorem dX4_callTraders_36 : decode cX4_callTraders 36 = .ok (.if_icmp .lt 13, 3) := by decide +kernel
theorem dX4_callTraders_39 : decode cX4_callTraders 39 = .ok (.aload_n 0, 1) := by decide +kernel
theorem dX4_callTraders_40 : decode cX4_callTraders 40 = .ok (.getfield 24, 3) := by decide +kernel
theorem dX4_callTraders_43 : decode cX4_callTraders 43 = .ok (.iload_n 2, 1) := by decide +kernel
theorem dX4_callTraders_44 : decode cX4_callTraders 44 = .ok (.iconst 0, 1) := by decide +kernel
theorem dX4_callTraders_45 : decode cX4_callTraders 45 = .ok (.iastore, 1) := by decide +kernel
theorem dX4_callTraders_46 : decode cX4_callTraders 46 = .ok (.goto 29, 3) := by decide +kernel
theorem dX4_callTraders_49 : decode cX4_callTraders 49 = .ok (.aload_n 0, 1) := by decide +kernel
theorem dX4_callTraders_50 : decode cX4_callTraders 50 = .ok (.getfield 24, 3) := by decide +kernel
theorem dX4_callTraders_53 : decode cX4_callTraders 53 = .ok (.iload_n 2, 1) := by decide +kernel
theorem dX4_callTraders_54 : decode cX4_callTraders 54 = .ok (.iaload, 1) := by decide +kernel
theorem dX4_callTraders_55 : decode cX4_callTraders 55 = .ok (.iconst 1, 1) := by decide +kernel
theorem dX4_callTraders_56 : decode cX4_callTraders 56 = .ok (.if_icmp .ne 12, 3) := by decide +kernel
theorem dX4_callTraders_59 : decode cX4_callTraders 59 = .ok (.iload_n 1, 1) := by decide +kernel
theorem dX4_callTraders_60 : decode cX4_callTraders 60 = .ok (.iconst 1, 1) := by decide +kernel
theorem dX4_callTraders_61 : decode cX4_callTraders 61 = .ok (.iload_n 2, 1) := by decide +kernel
theorem dX4_callTraders_62 : decode cX4_callTraders 62 = .ok (.ishl, 1) := by decide +kernel
theorem dX4_callTraders_63 : decode cX4_callTraders 63 = .ok (.ior, 1) := by decide +kernel
theorem dX4_callTraders_64 : decode cX4_callTraders 64 = .ok (.istore_n 1, 1) := by decide +kernel
theorem dX4_callTraders_65 : decode cX4_callTraders 65 = .ok (.goto 10, 3) := by decide +kernel
theorem dX4_callTraders_68 : decode cX4_callTraders 68 = .ok (.aload_n 0, 1) := by decide +kernel
theorem dX4_callTraders_69 : decode cX4_callTraders 69 = .ok (.getfield 24, 3) := by decide +kernel
theorem dX4_callTraders_72 : decode cX4_callTraders 72 = .ok (.iload_n 2, 1) := by decide +kernel
theorem dX4_callTraders_73 : decode cX4_callTraders 73 = .ok (.iconst 1, 1) := by decide +kernel
theorem dX4_callTraders_74 : decode cX4_callTraders 74 = .ok (.iastore, 1) := by decide +kernel
theorem dX4_callTraders_75 : decode cX4_callTraders 75 = .ok (.iinc 2 1, 3) := by decide +kernel
theorem dX4_callTraders_78 : decode cX4_callTraders 78 = .ok (.goto (-74), 3) := by decide +kernel
theorem dX4_callTraders_81 : decode cX4_callTraders 81 = .ok (.iload_n 1, 1) := by decide +kernel
theorem dX4_callTraders_82 : decode cX4_callTraders 82 = .ok (.ireturn, 1) := by decide +kernel
theorem dX4_replaceTrader_0 : decode cX4_replaceTrader 0 = .ok (.iconst 0, 1) := by decide +kernel
theorem dX4_replaceTrader_1 : decode cX4_replaceTrader 1 = .ok (.istore 4, 2) := by decide +kernel
theorem dX4_replaceTrader_3 : decode cX4_replaceTrader 3 = .ok (.iload 4, 2) := by decide +kernel
theorem dX4_replaceTrader_5 : decode cX4_replaceTrader 5 = .ok (.aload_n 0, 1) := by decide +kernel
theorem dX4_replaceTrader_6 : decode cX4_replaceTrader 6 = .ok (.getfield 55, 3) := by decide +kernel
theorem dX4_replaceTrader_9 : decode cX4_replaceTrader 9 = .ok (.if_icmp .ge 64, 3) := by decide +kernel
theorem dX4_replaceTrader_12 : decode cX4_replaceTrader 12 = .ok (.aload_n 0, 1) := by decide +kernel
theorem dX4_replaceTrader_13 : decode cX4_replaceTrader 13 = .ok (.getfield 33, 3) := by decide +kernel
theorem dX4_replaceTrader_16 : decode cX4_replaceTrader 16 = .ok (.iload 4, 2) := by decide +kernel
theorem dX4_replaceTrader_18 : decode cX4_replaceTrader 18 = .ok (.iaload, 1) := by decide +kernel
theorem dX4_replaceTrader_19 : decode cX4_replaceTrader 19 = .ok (.iload_n 3, 1) := by decide +kernel
theorem dX4_replaceTrader_20 : decode cX4_replaceTrader 20 = .ok (.if_icmp .eq 6, 3) := by decide +kernel
theorem dX4_replaceTrader_23 : decode cX4_replaceTrader 23 = .ok (.goto 44, 3) := by decide +kernel
theorem dX4_replaceTrader_26 : decode cX4_replaceTrader 26 = .ok (.aload_n 0, 1) := by decide +kernel
theorem dX4_replaceTrader_27 : decode cX4_replaceTrader 27 = .ok (.getfield 27, 3) := by decide +kernel
theorem dX4_replaceTrader_30 : decode cX4_replaceTrader 30 = .ok (.iload 4, 2) := by decide +kernel
theorem dX4_replaceTrader_32 : decode cX4_replaceTrader 32 = .ok (.iaload, 1) := by decide +kernel
theorem dX4_replaceTrader_33 : decode cX4_replaceTrader 33 = .ok (.iload_n 1, 1) := by decide +kernel
theorem dX4_replaceTrader_34 : decode cX4_replaceTrader 34 = .ok (.if_icmp .ne 14, 3) := by decide +kernel
theorem dX4_replaceTrader_37 : decode cX4_replaceTrader 37 = .ok (.aload_n 0, 1) := by decide +kernel
theorem dX4_replaceTrader_38 : decode cX4_replaceTrader 38 = .ok (.getfield 27, 3) := by decide +kernel
theorem dX4_replaceTrader_41 : decode cX4_replaceTrader 41 = .ok (.iload 4, 2) := by decide +kernel
theorem dX4_replaceTrader_43 : decode cX4_replaceTrader 43 = .ok (.iload_n 2, 1) := by decide +kernel
theorem dX4_replaceTrader_44 : decode cX4_replaceTrader 44 = .ok (.iastore, 1) := by decide +kernel
theorem dX4_replaceTrader_45 : decode cX4_replaceTrader 45 = .ok (.goto 22, 3) := by decide +kernel
theorem dX4_replaceTrader_48 : decode cX4_replaceTrader 48 = .ok (.aload_n 0, 1) := by decide +kernel
theorem dX4_replaceTrader_49 : decode cX4_replaceTrader 49 = .ok (.getfield 30, 3) := by decide +kernel
theorem dX4_replaceTrader_52 : decode cX4_replaceTrader 52 = .ok (.iload 4, 2) := by decide +kernel
theorem dX4_replaceTrader_54 : decode cX4_replaceTrader 54 = .ok (.iaload, 1) := by decide +kernel
theorem dX4_replaceTrader_55 : decode cX4_replaceTrader 55 = .ok (.iload_n 1, 1) := by decide +kernel
theorem dX4_replaceTrader_56 : decode cX4_replaceTrader 56 = .ok (.if_icmp .ne 11, 3) := by decide +kernel
theorem dX4_replaceTrader_59 : decode cX4_replaceTrader 59 = .ok (.aload_n 0, 1) := by decide +kernel
theorem dX4_replaceTrader_60 : decode cX4_replaceTrader 60 = .ok (.getfield 30, 3) := by decide +kernel
theorem dX4_replaceTrader_63 : decode cX4_replaceTrader 63 = .ok (.iload 4, 2) := by decide +kernel
theorem dX4_replaceTrader_65 : decode cX4_replaceTrader 65 = .ok (.iload_n 2, 1) := by decide +kernel
theorem dX4_replaceTrader_66 : decode cX4_replaceTrader 66 = .ok (.iastore, 1) := by decide +kernel
theorem dX4_replaceTrader_67 : decode cX4_replaceTrader 67 = .ok (.iinc 4 1, 3) := by decide +kernel
theorem dX4_replaceTrader_70 : decode cX4_replaceTrader 70 = .ok (.goto (-67), 3) := by decide +kernel
theorem dX4_replaceTrader_73 : decode cX4_replaceTrader 73 = .ok (.return_, 1) := by decide +kernel
theorem dX4_endContractsOf_0 : decode cX4_endContractsOf 0 = .ok (.aload_n 0, 1) := by decide +kernel
theorem dX4_endContractsOf_1 : decode cX4_endContractsOf 1 = .ok (.getfield 55, 3) := by decide +kernel
theorem dX4_endContractsOf_4 : decode cX4_endContractsOf 4 = .ok (.iconst 1, 1) := by decide +kernel
theorem dX4_endContractsOf_5 : decode cX4_endContractsOf 5 = .ok (.isub, 1) := by decide +kernel
theorem dX4_endContractsOf_6 : decode cX4_endContractsOf 6 = .ok (.istore_n 2, 1) := by decide +kernel
theorem dX4_endContractsOf_7 : decode cX4_endContractsOf 7 = .ok (.iload_n 2, 1) := by decide +kernel
theorem dX4_endContractsOf_8 : decode cX4_endContractsOf 8 = .ok (.ifCond .lt 38, 3) := by decide +kernel
theorem dX4_endContractsOf_11 : decode cX4_endContractsOf 11 = .ok (.aload_n 0, 1) := by decide +kernel
theorem dX4_endContractsOf_12 : decode cX4_endContractsOf 12 = .ok (.iload_n 2, 1) := by decide +kernel
theorem dX4_endContractsOf_13 : decode cX4_endContractsOf 13 = .ok (.iload_n 1, 1) := by decide +kernel
theorem dX4_endContractsOf_14 : decode cX4_endContractsOf 14 = .ok (.invokevirtual 103, 3) := by decide +kernel
theorem dX4_endContractsOf_17 : decode cX4_endContractsOf 17 = .ok (.ifCond .ne 18, 3) := by decide +kernel
theorem dX4_endContractsOf_20 : decode cX4_endContractsOf 20 = .ok (.aload_n 0, 1) := by decide +kernel
theorem dX4_endContractsOf_21 : decode cX4_endContractsOf 21 = .ok (.getfield 27, 3) := by decide +kernel
theorem dX4_endContractsOf_24 : decode cX4_endContractsOf 24 = .ok (.iload_n 2, 1) := by decide +kernel
theorem dX4_endContractsOf_25 : decode cX4_endContractsOf 25 = .ok (.iaload, 1) := by decide +kernel
theorem dX4_endContractsOf_26 : decode cX4_endContractsOf 26 = .ok (.aload_n 0, 1) := by decide +kernel
theorem dX4_endContractsOf_27 : decode cX4_endContractsOf 27 = .ok (.getfield 30, 3) := by decide +kernel
theorem dX4_endContractsOf_30 : decode cX4_endContractsOf 30 = .ok (.iload_n 2, 1) := by decide +kernel
theorem dX4_endContractsOf_31 : decode cX4_endContractsOf 31 = .ok (.iaload, 1) := by decide +kernel
theorem dX4_endContractsOf_32 : decode cX4_endContractsOf 32 = .ok (.if_icmp .ne 8, 3) := by decide +kernel
theorem dX4_endContractsOf_35 : decode cX4_endContractsOf 35 = .ok (.aload_n 0, 1) := by decide +kernel
theorem dX4_endContractsOf_36 : decode cX4_endContractsOf 36 = .ok (.iload_n 2, 1) := by decide +kernel
theorem dX4_endContractsOf_37 : decode cX4_endContractsOf 37 = .ok (.invokevirtual 99, 3) := by decide +kernel
theorem dX4_endContractsOf_40 : decode cX4_endContractsOf 40 = .ok (.iinc 2 (-1), 3) := by decide +kernel
theorem dX4_endContractsOf_43 : decode cX4_endContractsOf 43 = .ok (.goto (-36), 3) := by decide +kernel
theorem dX4_endContractsOf_46 : decode cX4_endContractsOf 46 = .ok (.return_, 1) := by decide +kernel
theorem dX4_closeAccount_0 : decode cX4_closeAccount 0 = .ok (.aload_n 0, 1) := by decide +kernel
theorem dX4_closeAccount_1 : decode cX4_closeAccount 1 = .ok (.getfield 21, 3) := by decide +kernel
theorem dX4_closeAccount_4 : decode cX4_closeAccount 4 = .ok (.iload_n 1, 1) := by decide +kernel
theorem dX4_closeAccount_5 : decode cX4_closeAccount 5 = .ok (.iaload, 1) := by decide +kernel
theorem dX4_closeAccount_6 : decode cX4_closeAccount 6 = .ok (.ifCond .le 21, 3) := by decide +kernel
theorem dX4_closeAccount_9 : decode cX4_closeAccount 9 = .ok (.aload_n 0, 1) := by decide +kernel
theorem dX4_closeAccount_10 : decode cX4_closeAccount 10 = .ok (.dup, 1) := by decide +kernel
theorem dX4_closeAccount_11 : decode cX4_closeAccount 11 = .ok (.getfield 61, 3) := by decide +kernel
theorem dX4_closeAccount_14 : decode cX4_closeAccount 14 = .ok (.aload_n 0, 1) := by decide +kernel
theorem dX4_closeAccount_15 : decode cX4_closeAccount 15 = .ok (.getfield 21, 3) := by decide +kernel
theorem dX4_closeAccount_18 : decode cX4_closeAccount 18 = .ok (.iload_n 1, 1) := by decide +kernel
theorem dX4_closeAccount_19 : decode cX4_closeAccount 19 = .ok (.iaload, 1) := by decide +kernel
theorem dX4_closeAccount_20 : decode cX4_closeAccount 20 = .ok (.iadd, 1) := by decide +kernel
theorem dX4_closeAccount_21 : decode cX4_closeAccount 21 = .ok (.putfield 61, 3) := by decide +kernel
theorem dX4_closeAccount_24 : decode cX4_closeAccount 24 = .ok (.goto 42, 3) := by decide +kernel
theorem dX4_closeAccount_27 : decode cX4_closeAccount 27 = .ok (.aload_n 0, 1) := by decide +kernel
theorem dX4_closeAccount_28 : decode cX4_closeAccount 28 = .ok (.getfield 21, 3) := by decide +kernel
theorem dX4_closeAccount_31 : decode cX4_closeAccount 31 = .ok (.iload_n 1, 1) := by decide +kernel
theorem dX4_closeAccount_32 : decode cX4_closeAccount 32 = .ok (.iaload, 1) := by decide +kernel
theorem dX4_closeAccount_33 : decode cX4_closeAccount 33 = .ok (.ineg, 1) := by decide +kernel
theorem dX4_closeAccount_34 : decode cX4_closeAccount 34 = .ok (.istore_n 2, 1) := by decide +kernel
theorem dX4_closeAccount_35 : decode cX4_closeAccount 35 = .ok (.iload_n 2, 1) := by decide +kernel
theorem dX4_closeAccount_36 : decode cX4_closeAccount 36 = .ok (.aload_n 0, 1) := by decide +kernel
theorem dX4_closeAccount_37 : decode cX4_closeAccount 37 = .ok (.getfield 61, 3) := by decide +kernel
theorem dX4_closeAccount_40 : decode cX4_closeAccount 40 = .ok (.invokestatic 106, 3) := by decide +kernel
theorem dX4_closeAccount_43 : decode cX4_closeAccount 43 = .ok (.istore_n 3, 1) := by decide +kernel
theorem dX4_closeAccount_44 : decode cX4_closeAccount 44 = .ok (.aload_n 0, 1) := by decide +kernel
theorem dX4_closeAccount_45 : decode cX4_closeAccount 45 = .ok (.dup, 1) := by decide +kernel
theorem dX4_closeAccount_46 : decode cX4_closeAccount 46 = .ok (.getfield 61, 3) := by decide +kernel
theorem dX4_closeAccount_49 : decode cX4_closeAccount 49 = .ok (.iload_n 3, 1) := by decide +kernel
theorem dX4_closeAccount_50 : decode cX4_closeAccount 50 = .ok (.isub, 1) := by decide +kernel
theorem dX4_closeAccount_51 : decode cX4_closeAccount 51 = .ok (.putfield 61, 3) := by decide +kernel
theorem dX4_closeAccount_54 : decode cX4_closeAccount 54 = .ok (.aload_n 0, 1) := by decide +kernel
theorem dX4_closeAccount_55 : decode cX4_closeAccount 55 = .ok (.dup, 1) := by decide +kernel
theorem dX4_closeAccount_56 : decode cX4_closeAccount 56 = .ok (.getfield 64, 3) := by decide +kernel
theorem dX4_closeAccount_59 : decode cX4_closeAccount 59 = .ok (.iload_n 2, 1) := by decide +kernel
theorem dX4_closeAccount_60 : decode cX4_closeAccount 60 = .ok (.iload_n 3, 1) := by decide +kernel
theorem dX4_closeAccount_61 : decode cX4_closeAccount 61 = .ok (.isub, 1) := by decide +kernel
theorem dX4_closeAccount_62 : decode cX4_closeAccount 62 = .ok (.iadd, 1) := by decide +kernel
theorem dX4_closeAccount_63 : decode cX4_closeAccount 63 = .ok (.putfield 64, 3) := by decide +kernel
theorem dX4_closeAccount_66 : decode cX4_closeAccount 66 = .ok (.aload_n 0, 1) := by decide +kernel
theorem dX4_closeAccount_67 : decode cX4_closeAccount 67 = .ok (.getfield 21, 3) := by decide +kernel
theorem dX4_closeAccount_70 : decode cX4_closeAccount 70 = .ok (.iload_n 1, 1) := by decide +kernel
theorem dX4_closeAccount_71 : decode cX4_closeAccount 71 = .ok (.iconst 0, 1) := by decide +kernel
theorem dX4_closeAccount_72 : decode cX4_closeAccount 72 = .ok (.iastore, 1) := by decide +kernel
theorem dX4_closeAccount_73 : decode cX4_closeAccount 73 = .ok (.aload_n 0, 1) := by decide +kernel
theorem dX4_closeAccount_74 : decode cX4_closeAccount 74 = .ok (.getfield 24, 3) := by decide +kernel
theorem dX4_closeAccount_77 : decode cX4_closeAccount 77 = .ok (.iload_n 1, 1) := by decide +kernel
theorem dX4_closeAccount_78 : decode cX4_closeAccount 78 = .ok (.iconst 2, 1) := by decide +kernel
theorem dX4_closeAccount_79 : decode cX4_closeAccount 79 = .ok (.iastore, 1) := by decide +kernel
theorem dX4_closeAccount_80 : decode cX4_closeAccount 80 = .ok (.return_, 1) := by decide +kernel
theorem dX4_removeContract_0 : decode cX4_removeContract 0 = .ok (.iload_n 1, 1) := by decide +kernel
theorem dX4_removeContract_1 : decode cX4_removeContract 1 = .ok (.istore_n 2, 1) := by decide +kernel
theorem dX4_removeContract_2 : decode cX4_removeContract 2 = .ok (.iload_n 2, 1) := by decide +kernel
theorem dX4_removeContract_3 : decode cX4_removeContract 3 = .ok (.iconst 1, 1) := by decide +kernel
theorem dX4_removeContract_4 : decode cX4_removeContract 4 = .ok (.iadd, 1) := by decide +kernel
theorem dX4_removeContract_5 : decode cX4_removeContract 5 = .ok (.aload_n 0, 1) := by decide +kernel
theorem dX4_removeContract_6 : decode cX4_removeContract 6 = .ok (.getfield 55, 3) := by decide +kernel
theorem dX4_removeContract_9 : decode cX4_removeContract 9 = .ok (.if_icmp .ge 79, 3) := by decide +kernel
theorem dX4_removeContract_12 : decode cX4_removeContract 12 = .ok (.aload_n 0, 1) := by decide +kernel
theorem dX4_removeContract_13 : decode cX4_removeContract 13 = .ok (.getfield 27, 3) := by decide +kernel
theorem dX4_removeContract_16 : decode cX4_removeContract 16 = .ok (.iload_n 2, 1) := by decide +kernel
theorem dX4_removeContract_17 : decode cX4_removeContract 17 = .ok (.aload_n 0, 1) := by decide +kernel
theorem dX4_removeContract_18 : decode cX4_removeContract 18 = .ok (.getfield 27, 3) := by decide +kernel
theorem dX4_removeContract_21 : decode cX4_removeContract 21 = .ok (.iload_n 2, 1) := by decide +kernel
theorem dX4_removeContract_22 : decode cX4_removeContract 22 = .ok (.iconst 1, 1) := by decide +kernel
theorem dX4_removeContract_23 : decode cX4_removeContract 23 = .ok (.iadd, 1) := by decide +kernel
theorem dX4_removeContract_24 : decode cX4_removeContract 24 = .ok (.iaload, 1) := by decide +kernel
theorem dX4_removeContract_25 : decode cX4_removeContract 25 = .ok (.iastore, 1) := by decide +kernel
theorem dX4_removeContract_26 : decode cX4_removeContract 26 = .ok (.aload_n 0, 1) := by decide +kernel
theorem dX4_removeContract_27 : decode cX4_removeContract 27 = .ok (.getfield 30, 3) := by decide +kernel
theorem dX4_removeContract_30 : decode cX4_removeContract 30 = .ok (.iload_n 2, 1) := by decide +kernel
theorem dX4_removeContract_31 : decode cX4_removeContract 31 = .ok (.aload_n 0, 1) := by decide +kernel
theorem dX4_removeContract_32 : decode cX4_removeContract 32 = .ok (.getfield 30, 3) := by decide +kernel
theorem dX4_removeContract_35 : decode cX4_removeContract 35 = .ok (.iload_n 2, 1) := by decide +kernel
theorem dX4_removeContract_36 : decode cX4_removeContract 36 = .ok (.iconst 1, 1) := by decide +kernel
theorem dX4_removeContract_37 : decode cX4_removeContract 37 = .ok (.iadd, 1) := by decide +kernel
theorem dX4_removeContract_38 : decode cX4_removeContract 38 = .ok (.iaload, 1) := by decide +kernel
theorem dX4_removeContract_39 : decode cX4_removeContract 39 = .ok (.iastore, 1) := by decide +kernel
theorem dX4_removeContract_40 : decode cX4_removeContract 40 = .ok (.aload_n 0, 1) := by decide +kernel
theorem dX4_removeContract_41 : decode cX4_removeContract 41 = .ok (.getfield 33, 3) := by decide +kernel
theorem dX4_removeContract_44 : decode cX4_removeContract 44 = .ok (.iload_n 2, 1) := by decide +kernel
theorem dX4_removeContract_45 : decode cX4_removeContract 45 = .ok (.aload_n 0, 1) := by decide +kernel
theorem dX4_removeContract_46 : decode cX4_removeContract 46 = .ok (.getfield 33, 3) := by decide +kernel
theorem dX4_removeContract_49 : decode cX4_removeContract 49 = .ok (.iload_n 2, 1) := by decide +kernel
theorem dX4_removeContract_50 : decode cX4_removeContract 50 = .ok (.iconst 1, 1) := by decide +kernel
theorem dX4_removeContract_51 : decode cX4_removeContract 51 = .ok (.iadd, 1) := by decide +kernel
theorem dX4_removeContract_52 : decode cX4_removeContract 52 = .ok (.iaload, 1) := by decide +kernel
theorem dX4_removeContract_53 : decode cX4_removeContract 53 = .ok (.iastore, 1) := by decide +kernel
theorem dX4_removeContract_54 : decode cX4_removeContract 54 = .ok (.aload_n 0, 1) := by decide +kernel
theorem dX4_removeContract_55 : decode cX4_removeContract 55 = .ok (.getfield 36, 3) := by decide +kernel
theorem dX4_removeContract_58 : decode cX4_removeContract 58 = .ok (.iload_n 2, 1) := by decide +kernel
theorem dX4_removeContract_59 : decode cX4_removeContract 59 = .ok (.aload_n 0, 1) := by decide +kernel
theorem dX4_removeContract_60 : decode cX4_removeContract 60 = .ok (.getfield 36, 3) := by decide +kernel
theorem dX4_removeContract_63 : decode cX4_removeContract 63 = .ok (.iload_n 2, 1) := by decide +kernel
theorem dX4_removeContract_64 : decode cX4_removeContract 64 = .ok (.iconst 1, 1) := by decide +kernel
theorem dX4_removeContract_65 : decode cX4_removeContract 65 = .ok (.iadd, 1) := by decide +kernel
theorem dX4_removeContract_66 : decode cX4_removeContract 66 = .ok (.iaload, 1) := by decide +kernel
theorem dX4_removeContract_67 : decode cX4_removeContract 67 = .ok (.iastore, 1) := by decide +kernel
theorem dX4_removeContract_68 : decode cX4_removeContract 68 = .ok (.aload_n 0, 1) := by decide +kernel
theorem dX4_removeContract_69 : decode cX4_removeContract 69 = .ok (.getfield 39, 3) := by decide +kernel
theorem dX4_removeContract_72 : decode cX4_removeContract 72 = .ok (.iload_n 2, 1) := by decide +kernel
theorem dX4_removeContract_73 : decode cX4_removeContract 73 = .ok (.aload_n 0, 1) := by decide +kernel
theorem dX4_removeContract_74 : decode cX4_removeContract 74 = .ok (.getfield 39, 3) := by decide +kernel
theorem dX4_removeContract_77 : decode cX4_removeContract 77 = .ok (.iload_n 2, 1) := by decide +kernel
theorem dX4_removeContract_78 : decode cX4_removeContract 78 = .ok (.iconst 1, 1) := by decide +kernel
theorem dX4_removeContract_79 : decode cX4_removeContract 79 = .ok (.iadd, 1) := by decide +kernel
theorem dX4_removeContract_80 : decode cX4_removeContract 80 = .ok (.iaload, 1) := by decide +kernel
theorem dX4_removeContract_81 : decode cX4_removeContract 81 = .ok (.iastore, 1) := by decide +kernel
theorem dX4_removeContract_82 : decode cX4_removeContract 82 = .ok (.iinc 2 1, 3) := by decide +kernel
theorem dX4_removeContract_85 : decode cX4_removeContract 85 = .ok (.goto (-83), 3) := by decide +kernel
theorem dX4_removeContract_88 : decode cX4_removeContract 88 = .ok (.aload_n 0, 1) := by decide +kernel
theorem dX4_removeContract_89 : decode cX4_removeContract 89 = .ok (.dup, 1) := by decide +kernel
theorem dX4_removeContract_90 : decode cX4_removeContract 90 = .ok (.getfield 55, 3) := by decide +kernel
theorem dX4_removeContract_93 : decode cX4_removeContract 93 = .ok (.iconst 1, 1) := by decide +kernel
theorem dX4_removeContract_94 : decode cX4_removeContract 94 = .ok (.isub, 1) := by decide +kernel
theorem dX4_removeContract_95 : decode cX4_removeContract 95 = .ok (.putfield 55, 3) := by decide +kernel
theorem dX4_removeContract_98 : decode cX4_removeContract 98 = .ok (.return_, 1) := by decide +kernel
theorem dX4_concerns_0 : decode cX4_concerns 0 = .ok (.aload_n 0, 1) := by decide +kernel
theorem dX4_concerns_1 : decode cX4_concerns 1 = .ok (.getfield 27, 3) := by decide +kernel
theorem dX4_concerns_4 : decode cX4_concerns 4 = .ok (.iload_n 1, 1) := by decide +kernel
theorem dX4_concerns_5 : decode cX4_concerns 5 = .ok (.iaload, 1) := by decide +kernel
theorem dX4_concerns_6 : decode cX4_concerns 6 = .ok (.iload_n 2, 1) := by decide +kernel
theorem dX4_concerns_7 : decode cX4_concerns 7 = .ok (.if_icmp .eq 13, 3) := by decide +kernel
theorem dX4_concerns_10 : decode cX4_concerns 10 = .ok (.aload_n 0, 1) := by decide +kernel
theorem dX4_concerns_11 : decode cX4_concerns 11 = .ok (.getfield 30, 3) := by decide +kernel
theorem dX4_concerns_14 : decode cX4_concerns 14 = .ok (.iload_n 1, 1) := by decide +kernel
theorem dX4_concerns_15 : decode cX4_concerns 15 = .ok (.iaload, 1) := by decide +kernel
theorem dX4_concerns_16 : decode cX4_concerns 16 = .ok (.iload_n 2, 1) := by decide +kernel
theorem dX4_concerns_17 : decode cX4_concerns 17 = .ok (.if_icmp .ne 7, 3) := by decide +kernel
theorem dX4_concerns_20 : decode cX4_concerns 20 = .ok (.iconst 1, 1) := by decide +kernel
theorem dX4_concerns_21 : decode cX4_concerns 21 = .ok (.goto 4, 3) := by decide +kernel
theorem dX4_concerns_24 : decode cX4_concerns 24 = .ok (.iconst 0, 1) := by decide +kernel
theorem dX4_concerns_25 : decode cX4_concerns 25 = .ok (.ireturn, 1) := by decide +kernel
theorem dX4_position_0 : decode cX4_position 0 = .ok (.aload_n 0, 1) := by decide +kernel
theorem dX4_position_1 : decode cX4_position 1 = .ok (.iload_n 1, 1) := by decide +kernel
theorem dX4_position_2 : decode cX4_position 2 = .ok (.iload_n 2, 1) := by decide +kernel
theorem dX4_position_3 : decode cX4_position 3 = .ok (.iconst (-1), 1) := by decide +kernel
theorem dX4_position_4 : decode cX4_position 4 = .ok (.invokevirtual 111, 3) := by decide +kernel
theorem dX4_position_7 : decode cX4_position 7 = .ok (.ireturn, 1) := by decide +kernel
theorem dX4_positionWithout_0 : decode cX4_positionWithout 0 = .ok (.iconst 0, 1) := by decide +kernel
theorem dX4_positionWithout_1 : decode cX4_positionWithout 1 = .ok (.istore 4, 2) := by decide +kernel
theorem dX4_positionWithout_3 : decode cX4_positionWithout 3 = .ok (.iconst 0, 1) := by decide +kernel
theorem dX4_positionWithout_4 : decode cX4_positionWithout 4 = .ok (.istore 5, 2) := by decide +kernel
theorem dX4_positionWithout_6 : decode cX4_positionWithout 6 = .ok (.iload 5, 2) := by decide +kernel
theorem dX4_positionWithout_8 : decode cX4_positionWithout 8 = .ok (.aload_n 0, 1) := by decide +kernel
theorem dX4_positionWithout_9 : decode cX4_positionWithout 9 = .ok (.getfield 55, 3) := by decide +kernel
theorem dX4_positionWithout_12 : decode cX4_positionWithout 12 = .ok (.if_icmp .ge 94, 3) := by decide +kernel
theorem dX4_positionWithout_15 : decode cX4_positionWithout 15 = .ok (.aload_n 0, 1) := by decide +kernel
theorem dX4_positionWithout_16 : decode cX4_positionWithout 16 = .ok (.getfield 33, 3) := by decide +kernel
theorem dX4_positionWithout_19 : decode cX4_positionWithout 19 = .ok (.iload 5, 2) := by decide +kernel
theorem dX4_positionWithout_21 : decode cX4_positionWithout 21 = .ok (.iaload, 1) := by decide +kernel
theorem dX4_positionWithout_22 : decode cX4_positionWithout 22 = .ok (.iload_n 2, 1) := by decide +kernel
theorem dX4_positionWithout_23 : decode cX4_positionWithout 23 = .ok (.if_icmp .ne 77, 3) := by decide +kernel
theorem dX4_positionWithout_26 : decode cX4_positionWithout 26 = .ok (.aload_n 0, 1) := by decide +kernel
theorem dX4_positionWithout_27 : decode cX4_positionWithout 27 = .ok (.getfield 27, 3) := by decide +kernel
theorem dX4_positionWithout_30 : decode cX4_positionWithout 30 = .ok (.iload 5, 2) := by decide +kernel
theorem dX4_positionWithout_32 : decode cX4_positionWithout 32 = .ok (.iaload, 1) := by decide +kernel
theorem dX4_positionWithout_33 : decode cX4_positionWithout 33 = .ok (.iload_n 3, 1) := by decide +kernel
theorem dX4_positionWithout_34 : decode cX4_positionWithout 34 = .ok (.if_icmp .eq 66, 3) := by decide +kernel
theorem dX4_positionWithout_37 : decode cX4_positionWithout 37 = .ok (.aload_n 0, 1) := by decide +kernel
theorem dX4_positionWithout_38 : decode cX4_positionWithout 38 = .ok (.getfield 30, 3) := by decide +kernel
theorem dX4_positionWithout_41 : decode cX4_positionWithout 41 = .ok (.iload 5, 2) := by decide +kernel
theorem dX4_positionWithout_43 : decode cX4_positionWithout 43 = .ok (.iaload, 1) := by decide +kernel
theorem dX4_positionWithout_44 : decode cX4_positionWithout 44 = .ok (.iload_n 3, 1) := by decide +kernel
theorem dX4_positionWithout_45 : decode cX4_positionWithout 45 = .ok (.if_icmp .ne 6, 3) := by decide +kernel
theorem dX4_positionWithout_48 : decode cX4_positionWithout 48 = .ok (.goto 52, 3) := by decide +kernel
theorem dX4_positionWithout_51 : decode cX4_positionWithout 51 = .ok (.aload_n 0, 1) := by decide +kernel
theorem dX4_positionWithout_52 : decode cX4_positionWithout 52 = .ok (.getfield 27, 3) := by decide +kernel
theorem dX4_positionWithout_55 : decode cX4_positionWithout 55 = .ok (.iload 5, 2) := by decide +kernel
theorem dX4_positionWithout_57 : decode cX4_positionWithout 57 = .ok (.iaload, 1) := by decide +kernel
theorem dX4_positionWithout_58 : decode cX4_positionWithout 58 = .ok (.iload_n 1, 1) := by decide +kernel
theorem dX4_positionWithout_59 : decode cX4_positionWithout 59 = .ok (.if_icmp .ne 18, 3) := by decide +kernel
theorem dX4_positionWithout_62 : decode cX4_positionWithout 62 = .ok (.iload 4, 2) := by decide +kernel
theorem dX4_positionWithout_64 : decode cX4_positionWithout 64 = .ok (.aload_n 0, 1) := by decide +kernel
theorem dX4_positionWithout_65 : decode cX4_positionWithout 65 = .ok (.getfield 36, 3) := by decide +kernel
theorem dX4_positionWithout_68 : decode cX4_positionWithout 68 = .ok (.iload 5, 2) := by decide +kernel
theorem dX4_positionWithout_70 : decode cX4_positionWithout 70 = .ok (.iaload, 1) := by decide +kernel
theorem dX4_positionWithout_71 : decode cX4_positionWithout 71 = .ok (.iadd, 1) := by decide +kernel
theorem dX4_positionWithout_72 : decode cX4_positionWithout 72 = .ok (.istore 4, 2) := by decide +kernel
theorem dX4_positionWithout_74 : decode cX4_positionWithout 74 = .ok (.goto 26, 3) := by decide +kernel
theorem dX4_positionWithout_77 : decode cX4_positionWithout 77 = .ok (.aload_n 0, 1) := by decide +kernel
theorem dX4_positionWithout_78 : decode cX4_positionWithout 78 = .ok (.getfield 30, 3) := by decide +kernel
theorem dX4_positionWithout_81 : decode cX4_positionWithout 81 = .ok (.iload 5, 2) := by decide +kernel
theorem dX4_positionWithout_83 : decode cX4_positionWithout 83 = .ok (.iaload, 1) := by decide +kernel
theorem dX4_positionWithout_84 : decode cX4_positionWithout 84 = .ok (.iload_n 1, 1) := by decide +kernel
theorem dX4_positionWithout_85 : decode cX4_positionWithout 85 = .ok (.if_icmp .ne 15, 3) := by decide +kernel
theorem dX4_positionWithout_88 : decode cX4_positionWithout 88 = .ok (.iload 4, 2) := by decide +kernel
theorem dX4_positionWithout_90 : decode cX4_positionWithout 90 = .ok (.aload_n 0, 1) := by decide +kernel
theorem dX4_positionWithout_91 : decode cX4_positionWithout 91 = .ok (.getfield 36, 3) := by decide +kernel
theorem dX4_positionWithout_94 : decode cX4_positionWithout 94 = .ok (.iload 5, 2) := by decide +kernel
theorem dX4_positionWithout_96 : decode cX4_positionWithout 96 = .ok (.iaload, 1) := by decide +kernel
theorem dX4_positionWithout_97 : decode cX4_positionWithout 97 = .ok (.isub, 1) := by decide +kernel
theorem dX4_positionWithout_98 : decode cX4_positionWithout 98 = .ok (.istore 4, 2) := by decide +kernel
theorem dX4_positionWithout_100 : decode cX4_positionWithout 100 = .ok (.iinc 5 1, 3) := by decide +kernel
theorem dX4_positionWithout_103 : decode cX4_positionWithout 103 = .ok (.goto (-97), 3) := by decide +kernel
theorem dX4_positionWithout_106 : decode cX4_positionWithout 106 = .ok (.iload 4, 2) := by decide +kernel
theorem dX4_positionWithout_108 : decode cX4_positionWithout 108 = .ok (.ireturn, 1) := by decide +kernel
theorem dX4_quantityOpenOn_0 : decode cX4_quantityOpenOn 0 = .ok (.iconst 0, 1) := by decide +kernel
theorem dX4_quantityOpenOn_1 : decode cX4_quantityOpenOn 1 = .ok (.istore_n 2, 1) := by decide +kernel
theorem dX4_quantityOpenOn_2 : decode cX4_quantityOpenOn 2 = .ok (.iconst 0, 1) := by decide +kernel
theorem dX4_quantityOpenOn_3 : decode cX4_quantityOpenOn 3 = .ok (.istore_n 3, 1) := by decide +kernel
theorem dX4_quantityOpenOn_4 : decode cX4_quantityOpenOn 4 = .ok (.iload_n 3, 1) := by decide +kernel
theorem dX4_quantityOpenOn_5 : decode cX4_quantityOpenOn 5 = .ok (.aload_n 0, 1) := by decide +kernel
theorem dX4_quantityOpenOn_6 : decode cX4_quantityOpenOn 6 = .ok (.getfield 55, 3) := by decide +kernel
theorem dX4_quantityOpenOn_9 : decode cX4_quantityOpenOn 9 = .ok (.if_icmp .ge 28, 3) := by decide +kernel
theorem dX4_quantityOpenOn_12 : decode cX4_quantityOpenOn 12 = .ok (.aload_n 0, 1) := by decide +kernel
theorem dX4_quantityOpenOn_13 : decode cX4_quantityOpenOn 13 = .ok (.getfield 33, 3) := by decide +kernel
theorem dX4_quantityOpenOn_16 : decode cX4_quantityOpenOn 16 = .ok (.iload_n 3, 1) := by decide +kernel
theorem dX4_quantityOpenOn_17 : decode cX4_quantityOpenOn 17 = .ok (.iaload, 1) := by decide +kernel
theorem dX4_quantityOpenOn_18 : decode cX4_quantityOpenOn 18 = .ok (.iload_n 1, 1) := by decide +kernel
theorem dX4_quantityOpenOn_19 : decode cX4_quantityOpenOn 19 = .ok (.if_icmp .ne 12, 3) := by decide +kernel
theorem dX4_quantityOpenOn_22 : decode cX4_quantityOpenOn 22 = .ok (.iload_n 2, 1) := by decide +kernel
theorem dX4_quantityOpenOn_23 : decode cX4_quantityOpenOn 23 = .ok (.aload_n 0, 1) := by decide +kernel
theorem dX4_quantityOpenOn_24 : decode cX4_quantityOpenOn 24 = .ok (.getfield 36, 3) := by decide +kernel
theorem dX4_quantityOpenOn_27 : decode cX4_quantityOpenOn 27 = .ok (.iload_n 3, 1) := by decide +kernel
theorem dX4_quantityOpenOn_28 : decode cX4_quantityOpenOn 28 = .ok (.iaload, 1) := by decide +kernel
theorem dX4_quantityOpenOn_29 : decode cX4_quantityOpenOn 29 = .ok (.iadd, 1) := by decide +kernel
theorem dX4_quantityOpenOn_30 : decode cX4_quantityOpenOn 30 = .ok (.istore_n 2, 1) := by decide +kernel
theorem dX4_quantityOpenOn_31 : decode cX4_quantityOpenOn 31 = .ok (.iinc 3 1, 3) := by decide +kernel
theorem dX4_quantityOpenOn_34 : decode cX4_quantityOpenOn 34 = .ok (.goto (-30), 3) := by decide +kernel
theorem dX4_quantityOpenOn_37 : decode cX4_quantityOpenOn 37 = .ok (.iload_n 2, 1) := by decide +kernel
theorem dX4_quantityOpenOn_38 : decode cX4_quantityOpenOn 38 = .ok (.ireturn, 1) := by decide +kernel
theorem dX4_margin_0 : decode cX4_margin 0 = .ok (.iconst 0, 1) := by decide +kernel
theorem dX4_margin_1 : decode cX4_margin 1 = .ok (.istore_n 2, 1) := by decide +kernel
theorem dX4_margin_2 : decode cX4_margin 2 = .ok (.iconst 0, 1) := by decide +kernel
theorem dX4_margin_3 : decode cX4_margin 3 = .ok (.istore_n 3, 1) := by decide +kernel
theorem dX4_margin_4 : decode cX4_margin 4 = .ok (.iload_n 3, 1) := by decide +kernel
theorem dX4_margin_5 : decode cX4_margin 5 = .ok (.aload_n 0, 1) := by decide +kernel
theorem dX4_margin_6 : decode cX4_margin 6 = .ok (.getfield 42, 3) := by decide +kernel
theorem dX4_margin_9 : decode cX4_margin 9 = .ok (.if_icmp .ge 28, 3) := by decide +kernel
theorem dX4_margin_12 : decode cX4_margin 12 = .ok (.iload_n 2, 1) := by decide +kernel
theorem dX4_margin_13 : decode cX4_margin 13 = .ok (.aload_n 0, 1) := by decide +kernel
theorem dX4_margin_14 : decode cX4_margin 14 = .ok (.iload_n 1, 1) := by decide +kernel
theorem dX4_margin_15 : decode cX4_margin 15 = .ok (.iload_n 3, 1) := by decide +kernel
theorem dX4_margin_16 : decode cX4_margin 16 = .ok (.invokevirtual 114, 3) := by decide +kernel
theorem dX4_margin_19 : decode cX4_margin 19 = .ok (.invokestatic 117, 3) := by decide +kernel
theorem dX4_margin_22 : decode cX4_margin 22 = .ok (.aload_n 0, 1) := by decide +kernel
theorem dX4_margin_23 : decode cX4_margin 23 = .ok (.getfield 18, 3) := by decide +kernel
theorem dX4_margin_26 : decode cX4_margin 26 = .ok (.iload_n 3, 1) := by decide +kernel
theorem dX4_margin_27 : decode cX4_margin 27 = .ok (.iaload, 1) := by decide +kernel
theorem dX4_margin_28 : decode cX4_margin 28 = .ok (.imul, 1) := by decide +kernel
theorem dX4_margin_29 : decode cX4_margin 29 = .ok (.iadd, 1) := by decide +kernel
theorem dX4_margin_30 : decode cX4_margin 30 = .ok (.istore_n 2, 1) := by decide +kernel
theorem dX4_margin_31 : decode cX4_margin 31 = .ok (.iinc 3 1, 3) := by decide +kernel
theorem dX4_margin_34 : decode cX4_margin 34 = .ok (.goto (-30), 3) := by decide +kernel
theorem dX4_margin_37 : decode cX4_margin 37 = .ok (.iload_n 2, 1) := by decide +kernel
theorem dX4_margin_38 : decode cX4_margin 38 = .ok (.ireturn, 1) := by decide +kernel
theorem dX4_marginWith_0 : decode cX4_marginWith 0 = .ok (.aload_n 0, 1) := by decide +kernel
theorem dX4_marginWith_1 : decode cX4_marginWith 1 = .ok (.iload_n 1, 1) := by decide +kernel
theorem dX4_marginWith_2 : decode cX4_marginWith 2 = .ok (.iload_n 2, 1) := by decide +kernel
theorem dX4_marginWith_3 : decode cX4_marginWith 3 = .ok (.invokevirtual 114, 3) := by decide +kernel
theorem dX4_marginWith_6 : decode cX4_marginWith 6 = .ok (.istore 4, 2) := by decide +kernel
theorem dX4_marginWith_8 : decode cX4_marginWith 8 = .ok (.aload_n 0, 1) := by decide +kernel
theorem dX4_marginWith_9 : decode cX4_marginWith 9 = .ok (.iload_n 1, 1) := by decide +kernel
theorem dX4_marginWith_10 : decode cX4_marginWith 10 = .ok (.invokevirtual 92, 3) := by decide +kernel
theorem dX4_marginWith_13 : decode cX4_marginWith 13 = .ok (.iload 4, 2) := by decide +kernel
theorem dX4_marginWith_15 : decode cX4_marginWith 15 = .ok (.iload_n 3, 1) := by decide +kernel
theorem dX4_marginWith_16 : decode cX4_marginWith 16 = .ok (.iadd, 1) := by decide +kernel
theorem dX4_marginWith_17 : decode cX4_marginWith 17 = .ok (.invokestatic 117, 3) := by decide +kernel
theorem dX4_marginWith_20 : decode cX4_marginWith 20 = .ok (.iload 4, 2) := by decide +kernel
theorem dX4_marginWith_22 : decode cX4_marginWith 22 = .ok (.invokestatic 117, 3) := by decide +kernel
theorem dX4_marginWith_25 : decode cX4_marginWith 25 = .ok (.isub, 1) := by decide +kernel
theorem dX4_marginWith_26 : decode cX4_marginWith 26 = .ok (.aload_n 0, 1) := by decide +kernel
theorem dX4_marginWith_27 : decode cX4_marginWith 27 = .ok (.getfield 18, 3) := by decide +kernel
theorem dX4_marginWith_30 : decode cX4_marginWith 30 = .ok (.iload_n 2, 1) := by decide +kernel
theorem dX4_marginWith_31 : decode cX4_marginWith 31 = .ok (.iaload, 1) := by decide +kernel
theorem dX4_marginWith_32 : decode cX4_marginWith 32 = .ok (.imul, 1) := by decide +kernel
theorem dX4_marginWith_33 : decode cX4_marginWith 33 = .ok (.iadd, 1) := by decide +kernel
theorem dX4_marginWith_34 : decode cX4_marginWith 34 = .ok (.ireturn, 1) := by decide +kernel
theorem dX4_marginOverScenarios_0 : decode cX4_marginOverScenarios 0 = .ok (.iconst 0, 1) := by decide +kernel
theorem dX4_marginOverScenarios_1 : decode cX4_marginOverScenarios 1 = .ok (.istore_n 2, 1) := by decide +kernel
theorem dX4_marginOverScenarios_2 : decode cX4_marginOverScenarios 2 = .ok (.iconst 0, 1) := by decide +kernel
theorem dX4_marginOverScenarios_3 : decode cX4_marginOverScenarios 3 = .ok (.istore_n 3, 1) := by decide +kernel
theorem dX4_marginOverScenarios_4 : decode cX4_marginOverScenarios 4 = .ok (.iload_n 3, 1) := by decide +kernel
theorem dX4_marginOverScenarios_5 : decode cX4_marginOverScenarios 5 = .ok (.iconst 1, 1) := by decide +kernel
theorem dX4_marginOverScenarios_6 : decode cX4_marginOverScenarios 6 = .ok (.aload_n 0, 1) := by decide +kernel
theorem dX4_marginOverScenarios_7 : decode cX4_marginOverScenarios 7 = .ok (.getfield 42, 3) := by decide +kernel
theorem dX4_marginOverScenarios_10 : decode cX4_marginOverScenarios 10 = .ok (.ishl, 1) := by decide +kernel
theorem dX4_marginOverScenarios_11 : decode cX4_marginOverScenarios 11 = .ok (.if_icmp .ge 76, 3) := by decide +kernel
theorem dX4_marginOverScenarios_14 : decode cX4_marginOverScenarios 14 = .ok (.iconst 0, 1) := by decide +kernel
theorem dX4_marginOverScenarios_15 : decode cX4_marginOverScenarios 15 = .ok (.istore 4, 2) := by decide +kernel
theorem dX4_marginOverScenarios_17 : decode cX4_marginOverScenarios 17 = .ok (.iconst 0, 1) := by decide +kernel
theorem dX4_marginOverScenarios_18 : decode cX4_marginOverScenarios 18 = .ok (.istore 5, 2) := by decide +kernel
theorem dX4_marginOverScenarios_20 : decode cX4_marginOverScenarios 20 = .ok (.iload 5, 2) := by decide +kernel
theorem dX4_marginOverScenarios_22 : decode cX4_marginOverScenarios 22 = .ok (.aload_n 0, 1) := by decide +kernel
theorem dX4_marginOverScenarios_23 : decode cX4_marginOverScenarios 23 = .ok (.getfield 42, 3) := by decide +kernel
theorem dX4_marginOverScenarios_26 : decode cX4_marginOverScenarios 26 = .ok (.if_icmp .ge 48, 3) := by decide +kernel
theorem dX4_marginOverScenarios_29 : decode cX4_marginOverScenarios 29 = .ok (.aload_n 0, 1) := by decide +kernel
theorem dX4_marginOverScenarios_30 : decode cX4_marginOverScenarios 30 = .ok (.iload_n 1, 1) := by decide +kernel
theorem dX4_marginOverScenarios_31 : decode cX4_marginOverScenarios 31 = .ok (.iload 5, 2) := by decide +kernel
theorem dX4_marginOverScenarios_33 : decode cX4_marginOverScenarios 33 = .ok (.invokevirtual 114, 3) := by decide +kernel
theorem dX4_marginOverScenarios_36 : decode cX4_marginOverScenarios 36 = .ok (.aload_n 0, 1) := by decide +kernel
theorem dX4_marginOverScenarios_37 : decode cX4_marginOverScenarios 37 = .ok (.getfield 18, 3) := by decide +kernel
theorem dX4_marginOverScenarios_40 : decode cX4_marginOverScenarios 40 = .ok (.iload 5, 2) := by decide +kernel
theorem dX4_marginOverScenarios_42 : decode cX4_marginOverScenarios 42 = .ok (.iaload, 1) := by decide +kernel
theorem dX4_marginOverScenarios_43 : decode cX4_marginOverScenarios 43 = .ok (.imul, 1) := by decide +kernel
theorem dX4_marginOverScenarios_44 : decode cX4_marginOverScenarios 44 = .ok (.istore 6, 2) := by decide +kernel
theorem dX4_marginOverScenarios_46 : decode cX4_marginOverScenarios 46 = .ok (.iload 4, 2) := by decide +kernel
theorem dX4_marginOverScenarios_48 : decode cX4_marginOverScenarios 48 = .ok (.iload_n 3, 1) := by decide +kernel
theorem dX4_marginOverScenarios_49 : decode cX4_marginOverScenarios 49 = .ok (.iload 5, 2) := by decide +kernel
theorem dX4_marginOverScenarios_51 : decode cX4_marginOverScenarios 51 = .ok (.ishr, 1) := by decide +kernel
theorem dX4_marginOverScenarios_52 : decode cX4_marginOverScenarios 52 = .ok (.iconst 1, 1) := by decide +kernel
theorem dX4_marginOverScenarios_53 : decode cX4_marginOverScenarios 53 = .ok (.iand, 1) := by decide +kernel
theorem dX4_marginOverScenarios_54 : decode cX4_marginOverScenarios 54 = .ok (.ifCond .eq 9, 3) := by decide +kernel
theorem dX4_marginOverScenarios_57 : decode cX4_marginOverScenarios 57 = .ok (.iload 6, 2) := by decide +kernel
theorem dX4_marginOverScenarios_59 : decode cX4_marginOverScenarios 59 = .ok (.ineg, 1) := by decide +kernel
theorem dX4_marginOverScenarios_60 : decode cX4_marginOverScenarios 60 = .ok (.goto 5, 3) := by decide +kernel
theorem dX4_marginOverScenarios_63 : decode cX4_marginOverScenarios 63 = .ok (.iload 6, 2) := by decide +kernel
theorem dX4_marginOverScenarios_65 : decode cX4_marginOverScenarios 65 = .ok (.iadd, 1) := by decide +kernel
theorem dX4_marginOverScenarios_66 : decode cX4_marginOverScenarios 66 = .ok (.istore 4, 2) := by decide +kernel
theorem dX4_marginOverScenarios_68 : decode cX4_marginOverScenarios 68 = .ok (.iinc 5 1, 3) := by decide +kernel
theorem dX4_marginOverScenarios_71 : decode cX4_marginOverScenarios 71 = .ok (.goto (-51), 3) := by decide +kernel
theorem dX4_marginOverScenarios_74 : decode cX4_marginOverScenarios 74 = .ok (.iload_n 2, 1) := by decide +kernel
theorem dX4_marginOverScenarios_75 : decode cX4_marginOverScenarios 75 = .ok (.iload 4, 2) := by decide +kernel
theorem dX4_marginOverScenarios_77 : decode cX4_marginOverScenarios 77 = .ok (.invokestatic 120, 3) := by decide +kernel
theorem dX4_marginOverScenarios_80 : decode cX4_marginOverScenarios 80 = .ok (.istore_n 2, 1) := by decide +kernel
theorem dX4_marginOverScenarios_81 : decode cX4_marginOverScenarios 81 = .ok (.iinc 3 1, 3) := by decide +kernel
theorem dX4_marginOverScenarios_84 : decode cX4_marginOverScenarios 84 = .ok (.goto (-80), 3) := by decide +kernel
theorem dX4_marginOverScenarios_87 : decode cX4_marginOverScenarios 87 = .ok (.iload_n 2, 1) := by decide +kernel
theorem dX4_marginOverScenarios_88 : decode cX4_marginOverScenarios 88 = .ok (.ireturn, 1) := by decide +kernel
theorem dX4_variation_0 : decode cX4_variation 0 = .ok (.iconst 0, 1) := by decide +kernel
theorem dX4_variation_1 : decode cX4_variation 1 = .ok (.istore_n 2, 1) := by decide +kernel
theorem dX4_variation_2 : decode cX4_variation 2 = .ok (.iconst 0, 1) := by decide +kernel
theorem dX4_variation_3 : decode cX4_variation 3 = .ok (.istore_n 3, 1) := by decide +kernel
theorem dX4_variation_4 : decode cX4_variation 4 = .ok (.iload_n 3, 1) := by decide +kernel
theorem dX4_variation_5 : decode cX4_variation 5 = .ok (.aload_n 0, 1) := by decide +kernel
theorem dX4_variation_6 : decode cX4_variation 6 = .ok (.getfield 42, 3) := by decide +kernel
theorem dX4_variation_9 : decode cX4_variation 9 = .ok (.if_icmp .ge 32, 3) := by decide +kernel
theorem dX4_variation_12 : decode cX4_variation 12 = .ok (.iload_n 2, 1) := by decide +kernel
theorem dX4_variation_13 : decode cX4_variation 13 = .ok (.aload_n 0, 1) := by decide +kernel
theorem dX4_variation_14 : decode cX4_variation 14 = .ok (.iload_n 1, 1) := by decide +kernel
theorem dX4_variation_15 : decode cX4_variation 15 = .ok (.iload_n 3, 1) := by decide +kernel
theorem dX4_variation_16 : decode cX4_variation 16 = .ok (.invokevirtual 114, 3) := by decide +kernel
theorem dX4_variation_19 : decode cX4_variation 19 = .ok (.aload_n 0, 1) := by decide +kernel
theorem dX4_variation_20 : decode cX4_variation 20 = .ok (.getfield 15, 3) := by decide +kernel
theorem dX4_variation_23 : decode cX4_variation 23 = .ok (.iload_n 3, 1) := by decide +kernel
theorem dX4_variation_24 : decode cX4_variation 24 = .ok (.iaload, 1) := by decide +kernel
theorem dX4_variation_25 : decode cX4_variation 25 = .ok (.aload_n 0, 1) := by decide +kernel
theorem dX4_variation_26 : decode cX4_variation 26 = .ok (.getfield 9, 3) := by decide +kernel
theorem dX4_variation_29 : decode cX4_variation 29 = .ok (.iload_n 3, 1) := by decide +kernel
theorem dX4_variation_30 : decode cX4_variation 30 = .ok (.iaload, 1) := by decide +kernel
theorem dX4_variation_31 : decode cX4_variation 31 = .ok (.isub, 1) := by decide +kernel
theorem dX4_variation_32 : decode cX4_variation 32 = .ok (.imul, 1) := by decide +kernel
theorem dX4_variation_33 : decode cX4_variation 33 = .ok (.iadd, 1) := by decide +kernel
theorem dX4_variation_34 : decode cX4_variation 34 = .ok (.istore_n 2, 1) := by decide +kernel
theorem dX4_variation_35 : decode cX4_variation 35 = .ok (.iinc 3 1, 3) := by decide +kernel
theorem dX4_variation_38 : decode cX4_variation 38 = .ok (.goto (-34), 3) := by decide +kernel
theorem dX4_variation_41 : decode cX4_variation 41 = .ok (.iload_n 2, 1) := by decide +kernel
theorem dX4_variation_42 : decode cX4_variation 42 = .ok (.ireturn, 1) := by decide +kernel
theorem dX4_traderAtRank_0 : decode cX4_traderAtRank 0 = .ok (.iconst 0, 1) := by decide +kernel
theorem dX4_traderAtRank_1 : decode cX4_traderAtRank 1 = .ok (.istore_n 2, 1) := by decide +kernel
theorem dX4_traderAtRank_2 : decode cX4_traderAtRank 2 = .ok (.iload_n 2, 1) := by decide +kernel
theorem dX4_traderAtRank_3 : decode cX4_traderAtRank 3 = .ok (.aload_n 0, 1) := by decide +kernel
theorem dX4_traderAtRank_4 : decode cX4_traderAtRank 4 = .ok (.getfield 52, 3) := by decide +kernel
theorem dX4_traderAtRank_7 : decode cX4_traderAtRank 7 = .ok (.if_icmp .ge 77, 3) := by decide +kernel
theorem dX4_traderAtRank_10 : decode cX4_traderAtRank 10 = .ok (.iconst 0, 1) := by decide +kernel
theorem dX4_traderAtRank_11 : decode cX4_traderAtRank 11 = .ok (.istore_n 3, 1) := by decide +kernel
theorem dX4_traderAtRank_12 : decode cX4_traderAtRank 12 = .ok (.iconst 0, 1) := by decide +kernel
theorem dX4_traderAtRank_13 : decode cX4_traderAtRank 13 = .ok (.istore 4, 2) := by decide +kernel
theorem dX4_traderAtRank_15 : decode cX4_traderAtRank 15 = .ok (.iload 4, 2) := by decide +kernel
theorem dX4_traderAtRank_17 : decode cX4_traderAtRank 17 = .ok (.aload_n 0, 1) := by decide +kernel
theorem dX4_traderAtRank_18 : decode cX4_traderAtRank 18 = .ok (.getfield 52, 3) := by decide +kernel
theorem dX4_traderAtRank_21 : decode cX4_traderAtRank 21 = .ok (.if_icmp .ge 50, 3) := by decide +kernel
theorem dX4_traderAtRank_24 : decode cX4_traderAtRank 24 = .ok (.aload_n 0, 1) := by decide +kernel
theorem dX4_traderAtRank_25 : decode cX4_traderAtRank 25 = .ok (.getfield 21, 3) := by decide +kernel
theorem dX4_traderAtRank_28 : decode cX4_traderAtRank 28 = .ok (.iload 4, 2) := by decide +kernel
theorem dX4_traderAtRank_30 : decode cX4_traderAtRank 30 = .ok (.iaload, 1) := by decide +kernel
theorem dX4_traderAtRank_31 : decode cX4_traderAtRank 31 = .ok (.aload_n 0, 1) := by decide +kernel
theorem dX4_traderAtRank_32 : decode cX4_traderAtRank 32 = .ok (.getfield 21, 3) := by decide +kernel
theorem dX4_traderAtRank_35 : decode cX4_traderAtRank 35 = .ok (.iload_n 2, 1) := by decide +kernel
theorem dX4_traderAtRank_36 : decode cX4_traderAtRank 36 = .ok (.iaload, 1) := by decide +kernel
theorem dX4_traderAtRank_37 : decode cX4_traderAtRank 37 = .ok (.if_icmp .gt 25, 3) := by decide +kernel
theorem dX4_traderAtRank_40 : decode cX4_traderAtRank 40 = .ok (.aload_n 0, 1) := by decide +kernel
theorem dX4_traderAtRank_41 : decode cX4_traderAtRank 41 = .ok (.getfield 21, 3) := by decide +kernel
theorem dX4_traderAtRank_44 : decode cX4_traderAtRank 44 = .ok (.iload 4, 2) := by decide +kernel
theorem dX4_traderAtRank_46 : decode cX4_traderAtRank 46 = .ok (.iaload, 1) := by decide +kernel
theorem dX4_traderAtRank_47 : decode cX4_traderAtRank 47 = .ok (.aload_n 0, 1) := by decide +kernel
theorem dX4_traderAtRank_48 : decode cX4_traderAtRank 48 = .ok (.getfield 21, 3) := by decide +kernel
theorem dX4_traderAtRank_51 : decode cX4_traderAtRank 51 = .ok (.iload_n 2, 1) := by decide +kernel
theorem dX4_traderAtRank_52 : decode cX4_traderAtRank 52 = .ok (.iaload, 1) := by decide +kernel
theorem dX4_traderAtRank_53 : decode cX4_traderAtRank 53 = .ok (.if_icmp .ne 12, 3) := by decide +kernel
theorem dX4_traderAtRank_56 : decode cX4_traderAtRank 56 = .ok (.iload 4, 2) := by decide +kernel
theorem dX4_traderAtRank_58 : decode cX4_traderAtRank 58 = .ok (.iload_n 2, 1) := by decide +kernel
theorem dX4_traderAtRank_59 : decode cX4_traderAtRank 59 = .ok (.if_icmp .ge 6, 3) := by decide +kernel
theorem dX4_traderAtRank_62 : decode cX4_traderAtRank 62 = .ok (.iinc 3 1, 3) := by decide +kernel
theorem dX4_traderAtRank_65 : decode cX4_traderAtRank 65 = .ok (.iinc 4 1, 3) := by decide +kernel
theorem dX4_traderAtRank_68 : decode cX4_traderAtRank 68 = .ok (.goto (-53), 3) := by decide +kernel
theorem dX4_traderAtRank_71 : decode cX4_traderAtRank 71 = .ok (.iload_n 3, 1) := by decide +kernel
theorem dX4_traderAtRank_72 : decode cX4_traderAtRank 72 = .ok (.iload_n 1, 1) := by decide +kernel
theorem dX4_traderAtRank_73 : decode cX4_traderAtRank 73 = .ok (.if_icmp .ne 5, 3) := by decide +kernel
theorem dX4_traderAtRank_76 : decode cX4_traderAtRank 76 = .ok (.iload_n 2, 1) := by decide +kernel
theorem dX4_traderAtRank_77 : decode cX4_traderAtRank 77 = .ok (.ireturn, 1) := by decide +kernel
theorem dX4_traderAtRank_78 : decode cX4_traderAtRank 78 = .ok (.iinc 2 1, 3) := by decide +kernel
theorem dX4_traderAtRank_81 : decode cX4_traderAtRank 81 = .ok (.goto (-79), 3) := by decide +kernel
theorem dX4_traderAtRank_84 : decode cX4_traderAtRank 84 = .ok (.iconst (-1), 1) := by decide +kernel
theorem dX4_traderAtRank_85 : decode cX4_traderAtRank 85 = .ok (.ireturn, 1) := by decide +kernel
theorem dX4_variationsAddUp_0 : decode cX4_variationsAddUp 0 = .ok (.iconst 0, 1) := by decide +kernel
theorem dX4_variationsAddUp_1 : decode cX4_variationsAddUp 1 = .ok (.istore_n 1, 1) := by decide +kernel
theorem dX4_variationsAddUp_2 : decode cX4_variationsAddUp 2 = .ok (.iconst 0, 1) := by decide +kernel
theorem dX4_variationsAddUp_3 : decode cX4_variationsAddUp 3 = .ok (.istore_n 2, 1) := by decide +kernel
theorem dX4_variationsAddUp_4 : decode cX4_variationsAddUp 4 = .ok (.iload_n 2, 1) := by decide +kernel
theorem dX4_variationsAddUp_5 : decode cX4_variationsAddUp 5 = .ok (.aload_n 0, 1) := by decide +kernel
theorem dX4_variationsAddUp_6 : decode cX4_variationsAddUp 6 = .ok (.getfield 52, 3) := by decide +kernel
theorem dX4_variationsAddUp_9 : decode cX4_variationsAddUp 9 = .ok (.if_icmp .ge 17, 3) := by decide +kernel
theorem dX4_variationsAddUp_12 : decode cX4_variationsAddUp 12 = .ok (.iload_n 1, 1) := by decide +kernel
theorem dX4_variationsAddUp_13 : decode cX4_variationsAddUp 13 = .ok (.aload_n 0, 1) := by decide +kernel
theorem dX4_variationsAddUp_14 : decode cX4_variationsAddUp 14 = .ok (.iload_n 2, 1) := by decide +kernel
theorem dX4_variationsAddUp_15 : decode cX4_variationsAddUp 15 = .ok (.invokevirtual 96, 3) := by decide +kernel
theorem dX4_variationsAddUp_18 : decode cX4_variationsAddUp 18 = .ok (.iadd, 1) := by decide +kernel
theorem dX4_variationsAddUp_19 : decode cX4_variationsAddUp 19 = .ok (.istore_n 1, 1) := by decide +kernel
theorem dX4_variationsAddUp_20 : decode cX4_variationsAddUp 20 = .ok (.iinc 2 1, 3) := by decide +kernel
theorem dX4_variationsAddUp_23 : decode cX4_variationsAddUp 23 = .ok (.goto (-19), 3) := by decide +kernel
theorem dX4_variationsAddUp_26 : decode cX4_variationsAddUp 26 = .ok (.iload_n 1, 1) := by decide +kernel
theorem dX4_variationsAddUp_27 : decode cX4_variationsAddUp 27 = .ok (.ifCond .ne 7, 3) := by decide +kernel
theorem dX4_variationsAddUp_30 : decode cX4_variationsAddUp 30 = .ok (.iconst 1, 1) := by decide +kernel
theorem dX4_variationsAddUp_31 : decode cX4_variationsAddUp 31 = .ok (.goto 4, 3) := by decide +kernel
theorem dX4_variationsAddUp_34 : decode cX4_variationsAddUp 34 = .ok (.iconst 0, 1) := by decide +kernel
theorem dX4_variationsAddUp_35 : decode cX4_variationsAddUp 35 = .ok (.ireturn, 1) := by decide +kernel
theorem dX4_accountsAddUp_0 : decode cX4_accountsAddUp 0 = .ok (.aload_n 0, 1) := by decide +kernel
theorem dX4_accountsAddUp_1 : decode cX4_accountsAddUp 1 = .ok (.getfield 61, 3) := by decide +kernel
theorem dX4_accountsAddUp_4 : decode cX4_accountsAddUp 4 = .ok (.i2l, 1) := by decide +kernel
theorem dX4_accountsAddUp_5 : decode cX4_accountsAddUp 5 = .ok (.lstore_n 1, 1) := by decide +kernel
theorem dX4_accountsAddUp_6 : decode cX4_accountsAddUp 6 = .ok (.iconst 0, 1) := by decide +kernel
theorem dX4_accountsAddUp_7 : decode cX4_accountsAddUp 7 = .ok (.istore_n 3, 1) := by decide +kernel
theorem dX4_accountsAddUp_8 : decode cX4_accountsAddUp 8 = .ok (.iload_n 3, 1) := by decide +kernel
theorem dX4_accountsAddUp_9 : decode cX4_accountsAddUp 9 = .ok (.aload_n 0, 1) := by decide +kernel
theorem dX4_accountsAddUp_10 : decode cX4_accountsAddUp 10 = .ok (.getfield 52, 3) := by decide +kernel
theorem dX4_accountsAddUp_13 : decode cX4_accountsAddUp 13 = .ok (.if_icmp .ge 19, 3) := by decide +kernel
theorem dX4_accountsAddUp_16 : decode cX4_accountsAddUp 16 = .ok (.lload_n 1, 1) := by decide +kernel
theorem dX4_accountsAddUp_17 : decode cX4_accountsAddUp 17 = .ok (.aload_n 0, 1) := by decide +kernel
theorem dX4_accountsAddUp_18 : decode cX4_accountsAddUp 18 = .ok (.getfield 21, 3) := by decide +kernel
theorem dX4_accountsAddUp_21 : decode cX4_accountsAddUp 21 = .ok (.iload_n 3, 1) := by decide +kernel
theorem dX4_accountsAddUp_22 : decode cX4_accountsAddUp 22 = .ok (.iaload, 1) := by decide +kernel
theorem dX4_accountsAddUp_23 : decode cX4_accountsAddUp 23 = .ok (.i2l, 1) := by decide +kernel
theorem dX4_accountsAddUp_24 : decode cX4_accountsAddUp 24 = .ok (.ladd, 1) := by decide +kernel
theorem dX4_accountsAddUp_25 : decode cX4_accountsAddUp 25 = .ok (.lstore_n 1, 1) := by decide +kernel
theorem dX4_accountsAddUp_26 : decode cX4_accountsAddUp 26 = .ok (.iinc 3 1, 3) := by decide +kernel
theorem dX4_accountsAddUp_29 : decode cX4_accountsAddUp 29 = .ok (.goto (-21), 3) := by decide +kernel
theorem dX4_accountsAddUp_32 : decode cX4_accountsAddUp 32 = .ok (.lload_n 1, 1) := by decide +kernel
theorem dX4_accountsAddUp_33 : decode cX4_accountsAddUp 33 = .ok (.aload_n 0, 1) := by decide +kernel
theorem dX4_accountsAddUp_34 : decode cX4_accountsAddUp 34 = .ok (.getfield 67, 3) := by decide +kernel
theorem dX4_accountsAddUp_37 : decode cX4_accountsAddUp 37 = .ok (.aload_n 0, 1) := by decide +kernel
theorem dX4_accountsAddUp_38 : decode cX4_accountsAddUp 38 = .ok (.getfield 71, 3) := by decide +kernel
theorem dX4_accountsAddUp_41 : decode cX4_accountsAddUp 41 = .ok (.lsub, 1) := by decide +kernel
theorem dX4_accountsAddUp_42 : decode cX4_accountsAddUp 42 = .ok (.aload_n 0, 1) := by decide +kernel
theorem dX4_accountsAddUp_43 : decode cX4_accountsAddUp 43 = .ok (.getfield 64, 3) := by decide +kernel
theorem dX4_accountsAddUp_46 : decode cX4_accountsAddUp 46 = .ok (.i2l, 1) := by decide +kernel
theorem dX4_accountsAddUp_47 : decode cX4_accountsAddUp 47 = .ok (.ladd, 1) := by decide +kernel
theorem dX4_accountsAddUp_48 : decode cX4_accountsAddUp 48 = .ok (.lcmp, 1) := by decide +kernel
theorem dX4_accountsAddUp_49 : decode cX4_accountsAddUp 49 = .ok (.ifCond .ne 7, 3) := by decide +kernel
theorem dX4_accountsAddUp_52 : decode cX4_accountsAddUp 52 = .ok (.iconst 1, 1) := by decide +kernel
theorem dX4_accountsAddUp_53 : decode cX4_accountsAddUp 53 = .ok (.goto 4, 3) := by decide +kernel
theorem dX4_accountsAddUp_56 : decode cX4_accountsAddUp 56 = .ok (.iconst 0, 1) := by decide +kernel
theorem dX4_accountsAddUp_57 : decode cX4_accountsAddUp 57 = .ok (.ireturn, 1) := by decide +kernel
