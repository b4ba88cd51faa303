theorem dX7_init_0 : decode cX7_init 0 = .ok (.aload_n 0, 1) := by decide +kernel
theorem dX7_init_1 : decode cX7_init 1 = .ok (.invokespecial 1, 3) := by decide +kernel
theorem dX7_init_4 : decode cX7_init 4 = .ok (.aload_n 0, 1) := by decide +kernel
theorem dX7_init_5 : decode cX7_init 5 = .ok (.new 7, 3) := by decide +kernel
theorem dX7_init_8 : decode cX7_init 8 = .ok (.dup, 1) := by decide +kernel
theorem dX7_init_9 : decode cX7_init 9 = .ok (.invokespecial 9, 3) := by decide +kernel
theorem dX7_init_12 : decode cX7_init 12 = .ok (.putfield 10, 3) := by decide +kernel
theorem dX7_init_15 : decode cX7_init 15 = .ok (.aload_n 0, 1) := by decide +kernel
theorem dX7_init_16 : decode cX7_init 16 = .ok (.new 7, 3) := by decide +kernel
theorem dX7_init_19 : decode cX7_init 19 = .ok (.dup, 1) := by decide +kernel
theorem dX7_init_20 : decode cX7_init 20 = .ok (.invokespecial 9, 3) := by decide +kernel
theorem dX7_init_23 : decode cX7_init 23 = .ok (.putfield 16, 3) := by decide +kernel
theorem dX7_init_26 : decode cX7_init 26 = .ok (.aload_n 0, 1) := by decide +kernel
theorem dX7_init_27 : decode cX7_init 27 = .ok (.new 7, 3) := by decide +kernel
theorem dX7_init_30 : decode cX7_init 30 = .ok (.dup, 1) := by decide +kernel
theorem dX7_init_31 : decode cX7_init 31 = .ok (.invokespecial 9, 3) := by decide +kernel
theorem dX7_init_34 : decode cX7_init 34 = .ok (.putfield 19, 3) := by decide +kernel
theorem dX7_init_37 : decode cX7_init 37 = .ok (.aload_n 0, 1) := by decide +kernel
theorem dX7_init_38 : decode cX7_init 38 = .ok (.new 22, 3) := by decide +kernel
theorem dX7_init_41 : decode cX7_init 41 = .ok (.dup, 1) := by decide +kernel
theorem dX7_init_42 : decode cX7_init 42 = .ok (.invokespecial 24, 3) := by decide +kernel
theorem dX7_init_45 : decode cX7_init 45 = .ok (.putfield 25, 3) := by decide +kernel
theorem dX7_init_48 : decode cX7_init 48 = .ok (.aload_n 0, 1) := by decide +kernel
theorem dX7_init_49 : decode cX7_init 49 = .ok (.new 29, 3) := by decide +kernel
theorem dX7_init_52 : decode cX7_init 52 = .ok (.dup, 1) := by decide +kernel
theorem dX7_init_53 : decode cX7_init 53 = .ok (.invokespecial 31, 3) := by decide +kernel
theorem dX7_init_56 : decode cX7_init 56 = .ok (.putfield 32, 3) := by decide +kernel
theorem dX7_init_59 : decode cX7_init 59 = .ok (.aload_n 0, 1) := by decide +kernel
theorem dX7_init_60 : decode cX7_init 60 = .ok (.new 36, 3) := by decide +kernel
theorem dX7_init_63 : decode cX7_init 63 = .ok (.dup, 1) := by decide +kernel
theorem dX7_init_64 : decode cX7_init 64 = .ok (.invokespecial 38, 3) := by decide +kernel
theorem dX7_init_67 : decode cX7_init 67 = .ok (.putfield 39, 3) := by decide +kernel
theorem dX7_init_70 : decode cX7_init 70 = .ok (.aload_n 0, 1) := by decide +kernel
theorem dX7_init_71 : decode cX7_init 71 = .ok (.new 43, 3) := by decide +kernel
theorem dX7_init_74 : decode cX7_init 74 = .ok (.dup, 1) := by decide +kernel
theorem dX7_init_75 : decode cX7_init 75 = .ok (.invokespecial 45, 3) := by decide +kernel
theorem dX7_init_78 : decode cX7_init 78 = .ok (.putfield 46, 3) := by decide +kernel
theorem dX7_init_81 : decode cX7_init 81 = .ok (.aload_n 0, 1) := by decide +kernel
theorem dX7_init_82 : decode cX7_init 82 = .ok (.new 50, 3) := by decide +kernel
theorem dX7_init_85 : decode cX7_init 85 = .ok (.dup, 1) := by decide +kernel
theorem dX7_init_86 : decode cX7_init 86 = .ok (.invokespecial 52, 3) := by decide +kernel
theorem dX7_init_89 : decode cX7_init 89 = .ok (.putfield 53, 3) := by decide +kernel
theorem dX7_init_92 : decode cX7_init 92 = .ok (.aload_n 0, 1) := by decide +kernel
theorem dX7_init_93 : decode cX7_init 93 = .ok (.new 50, 3) := by decide +kernel
theorem dX7_init_96 : decode cX7_init 96 = .ok (.dup, 1) := by decide +kernel
theorem dX7_init_97 : decode cX7_init 97 = .ok (.invokespecial 52, 3) := by decide +kernel
theorem dX7_init_100 : decode cX7_init 100 = .ok (.putfield 57, 3) := by decide +kernel
theorem dX7_init_103 : decode cX7_init 103 = .ok (.aload_n 0, 1) := by decide +kernel
theorem dX7_init_104 : decode cX7_init 104 = .ok (.iconst (-1), 1) := by decide +kernel
theorem dX7_init_105 : decode cX7_init 105 = .ok (.putfield 60, 3) := by decide +kernel
theorem dX7_init_108 : decode cX7_init 108 = .ok (.aload_n 0, 1) := by decide +kernel
theorem dX7_init_109 : decode cX7_init 109 = .ok (.iconst (-1), 1) := by decide +kernel
theorem dX7_init_110 : decode cX7_init 110 = .ok (.putfield 64, 3) := by decide +kernel
theorem dX7_init_113 : decode cX7_init 113 = .ok (.return_, 1) := by decide +kernel
theorem dX7_addHorizon_0 : decode cX7_addHorizon 0 = .ok (.aload_n 0, 1) := by decide +kernel
theorem dX7_addHorizon_1 : decode cX7_addHorizon 1 = .ok (.iconst 0, 1) := by decide +kernel
theorem dX7_addHorizon_2 : decode cX7_addHorizon 2 = .ok (.iload_n 1, 1) := by decide +kernel
theorem dX7_addHorizon_3 : decode cX7_addHorizon 3 = .ok (.iload_n 2, 1) := by decide +kernel
theorem dX7_addHorizon_4 : decode cX7_addHorizon 4 = .ok (.iconst 0, 1) := by decide +kernel
theorem dX7_addHorizon_5 : decode cX7_addHorizon 5 = .ok (.iconst 0, 1) := by decide +kernel
theorem dX7_addHorizon_6 : decode cX7_addHorizon 6 = .ok (.iconst 0, 1) := by decide +kernel
theorem dX7_addHorizon_7 : decode cX7_addHorizon 7 = .ok (.invokevirtual 69, 3) := by decide +kernel
theorem dX7_addHorizon_10 : decode cX7_addHorizon 10 = .ok (.ireturn, 1) := by decide +kernel
theorem dX7_addTrader_0 : decode cX7_addTrader 0 = .ok (.aload_n 0, 1) := by decide +kernel
theorem dX7_addTrader_1 : decode cX7_addTrader 1 = .ok (.iconst 1, 1) := by decide +kernel
theorem dX7_addTrader_2 : decode cX7_addTrader 2 = .ok (.iload_n 1, 1) := by decide +kernel
theorem dX7_addTrader_3 : decode cX7_addTrader 3 = .ok (.iconst 0, 1) := by decide +kernel
theorem dX7_addTrader_4 : decode cX7_addTrader 4 = .ok (.iconst 0, 1) := by decide +kernel
theorem dX7_addTrader_5 : decode cX7_addTrader 5 = .ok (.iconst 0, 1) := by decide +kernel
theorem dX7_addTrader_6 : decode cX7_addTrader 6 = .ok (.iconst 0, 1) := by decide +kernel
theorem dX7_addTrader_7 : decode cX7_addTrader 7 = .ok (.invokevirtual 69, 3) := by decide +kernel
theorem dX7_addTrader_10 : decode cX7_addTrader 10 = .ok (.ireturn, 1) := by decide +kernel
theorem dX7_trade_0 : decode cX7_trade 0 = .ok (.aload_n 0, 1) := by decide +kernel
theorem dX7_trade_1 : decode cX7_trade 1 = .ok (.iconst 2, 1) := by decide +kernel
theorem dX7_trade_2 : decode cX7_trade 2 = .ok (.iload_n 1, 1) := by decide +kernel
theorem dX7_trade_3 : decode cX7_trade 3 = .ok (.iload_n 2, 1) := by decide +kernel
theorem dX7_trade_4 : decode cX7_trade 4 = .ok (.iload_n 3, 1) := by decide +kernel
theorem dX7_trade_5 : decode cX7_trade 5 = .ok (.iload 4, 2) := by decide +kernel
theorem dX7_trade_7 : decode cX7_trade 7 = .ok (.iload 5, 2) := by decide +kernel
theorem dX7_trade_9 : decode cX7_trade 9 = .ok (.invokevirtual 69, 3) := by decide +kernel
theorem dX7_trade_12 : decode cX7_trade 12 = .ok (.ireturn, 1) := by decide +kernel
theorem dX7_setQuote_0 : decode cX7_setQuote 0 = .ok (.aload_n 0, 1) := by decide +kernel
theorem dX7_setQuote_1 : decode cX7_setQuote 1 = .ok (.iconst 3, 1) := by decide +kernel
theorem dX7_setQuote_2 : decode cX7_setQuote 2 = .ok (.iload_n 1, 1) := by decide +kernel
theorem dX7_setQuote_3 : decode cX7_setQuote 3 = .ok (.iload_n 2, 1) := by decide +kernel
theorem dX7_setQuote_4 : decode cX7_setQuote 4 = .ok (.iconst 0, 1) := by decide +kernel
theorem dX7_setQuote_5 : decode cX7_setQuote 5 = .ok (.iconst 0, 1) := by decide +kernel
theorem dX7_setQuote_6 : decode cX7_setQuote 6 = .ok (.iconst 0, 1) := by decide +kernel
theorem dX7_setQuote_7 : decode cX7_setQuote 7 = .ok (.invokevirtual 69, 3) := by decide +kernel
theorem dX7_setQuote_10 : decode cX7_setQuote 10 = .ok (.ireturn, 1) := by decide +kernel
theorem dX7_dawn_0 : decode cX7_dawn 0 = .ok (.aload_n 0, 1) := by decide +kernel
theorem dX7_dawn_1 : decode cX7_dawn 1 = .ok (.iconst 4, 1) := by decide +kernel
theorem dX7_dawn_2 : decode cX7_dawn 2 = .ok (.iconst 0, 1) := by decide +kernel
theorem dX7_dawn_3 : decode cX7_dawn 3 = .ok (.iconst 0, 1) := by decide +kernel
theorem dX7_dawn_4 : decode cX7_dawn 4 = .ok (.iconst 0, 1) := by decide +kernel
theorem dX7_dawn_5 : decode cX7_dawn 5 = .ok (.iconst 0, 1) := by decide +kernel
theorem dX7_dawn_6 : decode cX7_dawn 6 = .ok (.iconst 0, 1) := by decide +kernel
theorem dX7_dawn_7 : decode cX7_dawn 7 = .ok (.invokevirtual 69, 3) := by decide +kernel
theorem dX7_dawn_10 : decode cX7_dawn 10 = .ok (.ireturn, 1) := by decide +kernel
theorem dX7_deposit_0 : decode cX7_deposit 0 = .ok (.aload_n 0, 1) := by decide +kernel
theorem dX7_deposit_1 : decode cX7_deposit 1 = .ok (.iconst 5, 1) := by decide +kernel
theorem dX7_deposit_2 : decode cX7_deposit 2 = .ok (.iload_n 1, 1) := by decide +kernel
theorem dX7_deposit_3 : decode cX7_deposit 3 = .ok (.iload_n 2, 1) := by decide +kernel
theorem dX7_deposit_4 : decode cX7_deposit 4 = .ok (.iconst 0, 1) := by decide +kernel
theorem dX7_deposit_5 : decode cX7_deposit 5 = .ok (.iconst 0, 1) := by decide +kernel
theorem dX7_deposit_6 : decode cX7_deposit 6 = .ok (.iconst 0, 1) := by decide +kernel
theorem dX7_deposit_7 : decode cX7_deposit 7 = .ok (.invokevirtual 69, 3) := by decide +kernel
theorem dX7_deposit_10 : decode cX7_deposit 10 = .ok (.ireturn, 1) := by decide +kernel
theorem dX7_withdraw_0 : decode cX7_withdraw 0 = .ok (.aload_n 0, 1) := by decide +kernel
theorem dX7_withdraw_1 : decode cX7_withdraw 1 = .ok (.bipush 6, 2) := by decide +kernel
theorem dX7_withdraw_3 : decode cX7_withdraw 3 = .ok (.iload_n 1, 1) := by decide +kernel
theorem dX7_withdraw_4 : decode cX7_withdraw 4 = .ok (.iload_n 2, 1) := by decide +kernel
theorem dX7_withdraw_5 : decode cX7_withdraw 5 = .ok (.iconst 0, 1) := by decide +kernel
theorem dX7_withdraw_6 : decode cX7_withdraw 6 = .ok (.iconst 0, 1) := by decide +kernel
theorem dX7_withdraw_7 : decode cX7_withdraw 7 = .ok (.iconst 0, 1) := by decide +kernel
theorem dX7_withdraw_8 : decode cX7_withdraw 8 = .ok (.invokevirtual 69, 3) := by decide +kernel
theorem dX7_withdraw_11 : decode cX7_withdraw 11 = .ok (.ireturn, 1) := by decide +kernel
theorem dX7_contribute_0 : decode cX7_contribute 0 = .ok (.aload_n 0, 1) := by decide +kernel
theorem dX7_contribute_1 : decode cX7_contribute 1 = .ok (.bipush 7, 2) := by decide +kernel
theorem dX7_contribute_3 : decode cX7_contribute 3 = .ok (.iload_n 1, 1) := by decide +kernel
theorem dX7_contribute_4 : decode cX7_contribute 4 = .ok (.iload_n 2, 1) := by decide +kernel
theorem dX7_contribute_5 : decode cX7_contribute 5 = .ok (.iconst 0, 1) := by decide +kernel
theorem dX7_contribute_6 : decode cX7_contribute 6 = .ok (.iconst 0, 1) := by decide +kernel
theorem dX7_contribute_7 : decode cX7_contribute 7 = .ok (.iconst 0, 1) := by decide +kernel
theorem dX7_contribute_8 : decode cX7_contribute 8 = .ok (.invokevirtual 69, 3) := by decide +kernel
theorem dX7_contribute_11 : decode cX7_contribute 11 = .ok (.ireturn, 1) := by decide +kernel
theorem dX7_horizonCount_0 : decode cX7_horizonCount 0 = .ok (.aload_n 0, 1) := by decide +kernel
theorem dX7_horizonCount_1 : decode cX7_horizonCount 1 = .ok (.getfield 10, 3) := by decide +kernel
theorem dX7_horizonCount_4 : decode cX7_horizonCount 4 = .ok (.getfield 73, 3) := by decide +kernel
theorem dX7_horizonCount_7 : decode cX7_horizonCount 7 = .ok (.ireturn, 1) := by decide +kernel
theorem dX7_priceOf_0 : decode cX7_priceOf 0 = .ok (.iload_n 1, 1) := by decide +kernel
theorem dX7_priceOf_1 : decode cX7_priceOf 1 = .ok (.aload_n 0, 1) := by decide +kernel
theorem dX7_priceOf_2 : decode cX7_priceOf 2 = .ok (.getfield 10, 3) := by decide +kernel
theorem dX7_priceOf_5 : decode cX7_priceOf 5 = .ok (.getfield 73, 3) := by decide +kernel
theorem dX7_priceOf_8 : decode cX7_priceOf 8 = .ok (.invokestatic 76, 3) := by decide +kernel
theorem dX7_priceOf_11 : decode cX7_priceOf 11 = .ok (.aload_n 0, 1) := by decide +kernel
theorem dX7_priceOf_12 : decode cX7_priceOf 12 = .ok (.getfield 10, 3) := by decide +kernel
theorem dX7_priceOf_15 : decode cX7_priceOf 15 = .ok (.getfield 80, 3) := by decide +kernel
theorem dX7_priceOf_18 : decode cX7_priceOf 18 = .ok (.iload_n 1, 1) := by decide +kernel
theorem dX7_priceOf_19 : decode cX7_priceOf 19 = .ok (.iaload, 1) := by decide +kernel
theorem dX7_priceOf_20 : decode cX7_priceOf 20 = .ok (.ireturn, 1) := by decide +kernel
theorem dX7_quoteOf_0 : decode cX7_quoteOf 0 = .ok (.iload_n 1, 1) := by decide +kernel
theorem dX7_quoteOf_1 : decode cX7_quoteOf 1 = .ok (.aload_n 0, 1) := by decide +kernel
theorem dX7_quoteOf_2 : decode cX7_quoteOf 2 = .ok (.getfield 10, 3) := by decide +kernel
theorem dX7_quoteOf_5 : decode cX7_quoteOf 5 = .ok (.getfield 73, 3) := by decide +kernel
theorem dX7_quoteOf_8 : decode cX7_quoteOf 8 = .ok (.invokestatic 76, 3) := by decide +kernel
theorem dX7_quoteOf_11 : decode cX7_quoteOf 11 = .ok (.aload_n 0, 1) := by decide +kernel
theorem dX7_quoteOf_12 : decode cX7_quoteOf 12 = .ok (.getfield 10, 3) := by decide +kernel
theorem dX7_quoteOf_15 : decode cX7_quoteOf 15 = .ok (.getfield 84, 3) := by decide +kernel
theorem dX7_quoteOf_18 : decode cX7_quoteOf 18 = .ok (.iload_n 1, 1) := by decide +kernel
theorem dX7_quoteOf_19 : decode cX7_quoteOf 19 = .ok (.iaload, 1) := by decide +kernel
theorem dX7_quoteOf_20 : decode cX7_quoteOf 20 = .ok (.ireturn, 1) := by decide +kernel
theorem dX7_rangeOf_0 : decode cX7_rangeOf 0 = .ok (.iload_n 1, 1) := by decide +kernel
theorem dX7_rangeOf_1 : decode cX7_rangeOf 1 = .ok (.aload_n 0, 1) := by decide +kernel
theorem dX7_rangeOf_2 : decode cX7_rangeOf 2 = .ok (.getfield 10, 3) := by decide +kernel
theorem dX7_rangeOf_5 : decode cX7_rangeOf 5 = .ok (.getfield 73, 3) := by decide +kernel
theorem dX7_rangeOf_8 : decode cX7_rangeOf 8 = .ok (.invokestatic 76, 3) := by decide +kernel
theorem dX7_rangeOf_11 : decode cX7_rangeOf 11 = .ok (.aload_n 0, 1) := by decide +kernel
theorem dX7_rangeOf_12 : decode cX7_rangeOf 12 = .ok (.getfield 10, 3) := by decide +kernel
theorem dX7_rangeOf_15 : decode cX7_rangeOf 15 = .ok (.getfield 87, 3) := by decide +kernel
theorem dX7_rangeOf_18 : decode cX7_rangeOf 18 = .ok (.iload_n 1, 1) := by decide +kernel
theorem dX7_rangeOf_19 : decode cX7_rangeOf 19 = .ok (.iaload, 1) := by decide +kernel
theorem dX7_rangeOf_20 : decode cX7_rangeOf 20 = .ok (.ireturn, 1) := by decide +kernel
theorem dX7_traderCount_0 : decode cX7_traderCount 0 = .ok (.aload_n 0, 1) := by decide +kernel
theorem dX7_traderCount_1 : decode cX7_traderCount 1 = .ok (.getfield 10, 3) := by decide +kernel
theorem dX7_traderCount_4 : decode cX7_traderCount 4 = .ok (.getfield 90, 3) := by decide +kernel
theorem dX7_traderCount_7 : decode cX7_traderCount 7 = .ok (.ireturn, 1) := by decide +kernel
theorem dX7_moneyOf_0 : decode cX7_moneyOf 0 = .ok (.iload_n 1, 1) := by decide +kernel
theorem dX7_moneyOf_1 : decode cX7_moneyOf 1 = .ok (.aload_n 0, 1) := by decide +kernel
theorem dX7_moneyOf_2 : decode cX7_moneyOf 2 = .ok (.getfield 10, 3) := by decide +kernel
theorem dX7_moneyOf_5 : decode cX7_moneyOf 5 = .ok (.getfield 90, 3) := by decide +kernel
theorem dX7_moneyOf_8 : decode cX7_moneyOf 8 = .ok (.invokestatic 76, 3) := by decide +kernel
theorem dX7_moneyOf_11 : decode cX7_moneyOf 11 = .ok (.aload_n 0, 1) := by decide +kernel
theorem dX7_moneyOf_12 : decode cX7_moneyOf 12 = .ok (.getfield 10, 3) := by decide +kernel
theorem dX7_moneyOf_15 : decode cX7_moneyOf 15 = .ok (.getfield 93, 3) := by decide +kernel
theorem dX7_moneyOf_18 : decode cX7_moneyOf 18 = .ok (.iload_n 1, 1) := by decide +kernel
theorem dX7_moneyOf_19 : decode cX7_moneyOf 19 = .ok (.iaload, 1) := by decide +kernel
theorem dX7_moneyOf_20 : decode cX7_moneyOf 20 = .ok (.ireturn, 1) := by decide +kernel
theorem dX7_isCalled_0 : decode cX7_isCalled 0 = .ok (.iload_n 1, 1) := by decide +kernel
theorem dX7_isCalled_1 : decode cX7_isCalled 1 = .ok (.aload_n 0, 1) := by decide +kernel
theorem dX7_isCalled_2 : decode cX7_isCalled 2 = .ok (.getfield 10, 3) := by decide +kernel
theorem dX7_isCalled_5 : decode cX7_isCalled 5 = .ok (.getfield 90, 3) := by decide +kernel
theorem dX7_isCalled_8 : decode cX7_isCalled 8 = .ok (.invokestatic 76, 3) := by decide +kernel
theorem dX7_isCalled_11 : decode cX7_isCalled 11 = .ok (.aload_n 0, 1) := by decide +kernel
theorem dX7_isCalled_12 : decode cX7_isCalled 12 = .ok (.getfield 10, 3) := by decide +kernel
theorem dX7_isCalled_15 : decode cX7_isCalled 15 = .ok (.getfield 96, 3) := by decide +kernel
theorem dX7_isCalled_18 : decode cX7_isCalled 18 = .ok (.iload_n 1, 1) := by decide +kernel
theorem dX7_isCalled_19 : decode cX7_isCalled 19 = .ok (.iaload, 1) := by decide +kernel
theorem dX7_isCalled_20 : decode cX7_isCalled 20 = .ok (.iconst 1, 1) := by decide +kernel
theorem dX7_isCalled_21 : decode cX7_isCalled 21 = .ok (.if_icmp .ne 7, 3) := by decide +kernel
theorem dX7_isCalled_24 : decode cX7_isCalled 24 = .ok (.iconst 1, 1) := by decide +kernel
theorem dX7_isCalled_25 : decode cX7_isCalled 25 = .ok (.goto 4, 3) := by decide +kernel
theorem dX7_isCalled_28 : decode cX7_isCalled 28 = .ok (.iconst 0, 1) := by decide +kernel
theorem dX7_isCalled_29 : decode cX7_isCalled 29 = .ok (.ireturn, 1) := by decide +kernel
theorem dX7_hasDefaulted_0 : decode cX7_hasDefaulted 0 = .ok (.iload_n 1, 1) := by decide +kernel
theorem dX7_hasDefaulted_1 : decode cX7_hasDefaulted 1 = .ok (.aload_n 0, 1) := by decide +kernel
theorem dX7_hasDefaulted_2 : decode cX7_hasDefaulted 2 = .ok (.getfield 10, 3) := by decide +kernel
theorem dX7_hasDefaulted_5 : decode cX7_hasDefaulted 5 = .ok (.getfield 90, 3) := by decide +kernel
theorem dX7_hasDefaulted_8 : decode cX7_hasDefaulted 8 = .ok (.invokestatic 76, 3) := by decide +kernel
theorem dX7_hasDefaulted_11 : decode cX7_hasDefaulted 11 = .ok (.aload_n 0, 1) := by decide +kernel
theorem dX7_hasDefaulted_12 : decode cX7_hasDefaulted 12 = .ok (.getfield 10, 3) := by decide +kernel
theorem dX7_hasDefaulted_15 : decode cX7_hasDefaulted 15 = .ok (.getfield 96, 3) := by decide +kernel
theorem dX7_hasDefaulted_18 : decode cX7_hasDefaulted 18 = .ok (.iload_n 1, 1) := by decide +kernel
theorem dX7_hasDefaulted_19 : decode cX7_hasDefaulted 19 = .ok (.iaload, 1) := by decide +kernel
theorem dX7_hasDefaulted_20 : decode cX7_hasDefaulted 20 = .ok (.iconst 2, 1) := by decide +kernel
theorem dX7_hasDefaulted_21 : decode cX7_hasDefaulted 21 = .ok (.if_icmp .ne 7, 3) := by decide +kernel
theorem dX7_hasDefaulted_24 : decode cX7_hasDefaulted 24 = .ok (.iconst 1, 1) := by decide +kernel
theorem dX7_hasDefaulted_25 : decode cX7_hasDefaulted 25 = .ok (.goto 4, 3) := by decide +kernel
theorem dX7_hasDefaulted_28 : decode cX7_hasDefaulted 28 = .ok (.iconst 0, 1) := by decide +kernel
theorem dX7_hasDefaulted_29 : decode cX7_hasDefaulted 29 = .ok (.ireturn, 1) := by decide +kernel
theorem dX7_positionOf_0 : decode cX7_positionOf 0 = .ok (.iload_n 1, 1) := by decide +kernel
theorem dX7_positionOf_1 : decode cX7_positionOf 1 = .ok (.aload_n 0, 1) := by decide +kernel
theorem dX7_positionOf_2 : decode cX7_positionOf 2 = .ok (.getfield 10, 3) := by decide +kernel
theorem dX7_positionOf_5 : decode cX7_positionOf 5 = .ok (.getfield 90, 3) := by decide +kernel
theorem dX7_positionOf_8 : decode cX7_positionOf 8 = .ok (.invokestatic 76, 3) := by decide +kernel
theorem dX7_positionOf_11 : decode cX7_positionOf 11 = .ok (.iload_n 2, 1) := by decide +kernel
theorem dX7_positionOf_12 : decode cX7_positionOf 12 = .ok (.aload_n 0, 1) := by decide +kernel
theorem dX7_positionOf_13 : decode cX7_positionOf 13 = .ok (.getfield 10, 3) := by decide +kernel
theorem dX7_positionOf_16 : decode cX7_positionOf 16 = .ok (.getfield 73, 3) := by decide +kernel
theorem dX7_positionOf_19 : decode cX7_positionOf 19 = .ok (.invokestatic 76, 3) := by decide +kernel
theorem dX7_positionOf_22 : decode cX7_positionOf 22 = .ok (.aload_n 0, 1) := by decide +kernel
theorem dX7_positionOf_23 : decode cX7_positionOf 23 = .ok (.getfield 10, 3) := by decide +kernel
theorem dX7_positionOf_26 : decode cX7_positionOf 26 = .ok (.iload_n 1, 1) := by decide +kernel
theorem dX7_positionOf_27 : decode cX7_positionOf 27 = .ok (.iload_n 2, 1) := by decide +kernel
theorem dX7_positionOf_28 : decode cX7_positionOf 28 = .ok (.invokevirtual 99, 3) := by decide +kernel
theorem dX7_positionOf_31 : decode cX7_positionOf 31 = .ok (.ireturn, 1) := by decide +kernel
theorem dX7_openQuantity_0 : decode cX7_openQuantity 0 = .ok (.iload_n 1, 1) := by decide +kernel
theorem dX7_openQuantity_1 : decode cX7_openQuantity 1 = .ok (.aload_n 0, 1) := by decide +kernel
theorem dX7_openQuantity_2 : decode cX7_openQuantity 2 = .ok (.getfield 10, 3) := by decide +kernel
theorem dX7_openQuantity_5 : decode cX7_openQuantity 5 = .ok (.getfield 73, 3) := by decide +kernel
theorem dX7_openQuantity_8 : decode cX7_openQuantity 8 = .ok (.invokestatic 76, 3) := by decide +kernel
theorem dX7_openQuantity_11 : decode cX7_openQuantity 11 = .ok (.aload_n 0, 1) := by decide +kernel
theorem dX7_openQuantity_12 : decode cX7_openQuantity 12 = .ok (.getfield 10, 3) := by decide +kernel
theorem dX7_openQuantity_15 : decode cX7_openQuantity 15 = .ok (.iload_n 1, 1) := by decide +kernel
theorem dX7_openQuantity_16 : decode cX7_openQuantity 16 = .ok (.invokevirtual 103, 3) := by decide +kernel
theorem dX7_openQuantity_19 : decode cX7_openQuantity 19 = .ok (.ireturn, 1) := by decide +kernel
theorem dX7_contractCount_0 : decode cX7_contractCount 0 = .ok (.aload_n 0, 1) := by decide +kernel
theorem dX7_contractCount_1 : decode cX7_contractCount 1 = .ok (.getfield 10, 3) := by decide +kernel
theorem dX7_contractCount_4 : decode cX7_contractCount 4 = .ok (.getfield 107, 3) := by decide +kernel
theorem dX7_contractCount_7 : decode cX7_contractCount 7 = .ok (.ireturn, 1) := by decide +kernel
theorem dX7_buyerOf_0 : decode cX7_buyerOf 0 = .ok (.iload_n 1, 1) := by decide +kernel
theorem dX7_buyerOf_1 : decode cX7_buyerOf 1 = .ok (.aload_n 0, 1) := by decide +kernel
theorem dX7_buyerOf_2 : decode cX7_buyerOf 2 = .ok (.getfield 10, 3) := by decide +kernel
theorem dX7_buyerOf_5 : decode cX7_buyerOf 5 = .ok (.getfield 107, 3) := by decide +kernel
theorem dX7_buyerOf_8 : decode cX7_buyerOf 8 = .ok (.invokestatic 76, 3) := by decide +kernel
theorem dX7_buyerOf_11 : decode cX7_buyerOf 11 = .ok (.aload_n 0, 1) := by decide +kernel
theorem dX7_buyerOf_12 : decode cX7_buyerOf 12 = .ok (.getfield 10, 3) := by decide +kernel
theorem dX7_buyerOf_15 : decode cX7_buyerOf 15 = .ok (.getfield 110, 3) := by decide +kernel
theorem dX7_buyerOf_18 : decode cX7_buyerOf 18 = .ok (.iload_n 1, 1) := by decide +kernel
theorem dX7_buyerOf_19 : decode cX7_buyerOf 19 = .ok (.iaload, 1) := by decide +kernel
theorem dX7_buyerOf_20 : decode cX7_buyerOf 20 = .ok (.ireturn, 1) := by decide +kernel
theorem dX7_sellerOf_0 : decode cX7_sellerOf 0 = .ok (.iload_n 1, 1) := by decide +kernel
theorem dX7_sellerOf_1 : decode cX7_sellerOf 1 = .ok (.aload_n 0, 1) := by decide +kernel
theorem dX7_sellerOf_2 : decode cX7_sellerOf 2 = .ok (.getfield 10, 3) := by decide +kernel
theorem dX7_sellerOf_5 : decode cX7_sellerOf 5 = .ok (.getfield 107, 3) := by decide +kernel
theorem dX7_sellerOf_8 : decode cX7_sellerOf 8 = .ok (.invokestatic 76, 3) := by decide +kernel
theorem dX7_sellerOf_11 : decode cX7_sellerOf 11 = .ok (.aload_n 0, 1) := by decide +kernel
theorem dX7_sellerOf_12 : decode cX7_sellerOf 12 = .ok (.getfield 10, 3) := by decide +kernel
theorem dX7_sellerOf_15 : decode cX7_sellerOf 15 = .ok (.getfield 113, 3) := by decide +kernel
theorem dX7_sellerOf_18 : decode cX7_sellerOf 18 = .ok (.iload_n 1, 1) := by decide +kernel
theorem dX7_sellerOf_19 : decode cX7_sellerOf 19 = .ok (.iaload, 1) := by decide +kernel
theorem dX7_sellerOf_20 : decode cX7_sellerOf 20 = .ok (.ireturn, 1) := by decide +kernel
theorem dX7_horizonOf_0 : decode cX7_horizonOf 0 = .ok (.iload_n 1, 1) := by decide +kernel
theorem dX7_horizonOf_1 : decode cX7_horizonOf 1 = .ok (.aload_n 0, 1) := by decide +kernel
theorem dX7_horizonOf_2 : decode cX7_horizonOf 2 = .ok (.getfield 10, 3) := by decide +kernel
theorem dX7_horizonOf_5 : decode cX7_horizonOf 5 = .ok (.getfield 107, 3) := by decide +kernel
theorem dX7_horizonOf_8 : decode cX7_horizonOf 8 = .ok (.invokestatic 76, 3) := by decide +kernel
theorem dX7_horizonOf_11 : decode cX7_horizonOf 11 = .ok (.aload_n 0, 1) := by decide +kernel
theorem dX7_horizonOf_12 : decode cX7_horizonOf 12 = .ok (.getfield 10, 3) := by decide +kernel
theorem dX7_horizonOf_15 : decode cX7_horizonOf 15 = .ok (.getfield 116, 3) := by decide +kernel
theorem dX7_horizonOf_18 : decode cX7_horizonOf 18 = .ok (.iload_n 1, 1) := by decide +kernel
theorem dX7_horizonOf_19 : decode cX7_horizonOf 19 = .ok (.iaload, 1) := by decide +kernel
theorem dX7_horizonOf_20 : decode cX7_horizonOf 20 = .ok (.ireturn, 1) := by decide +kernel
theorem dX7_quantityOf_0 : decode cX7_quantityOf 0 = .ok (.iload_n 1, 1) := by decide +kernel
theorem dX7_quantityOf_1 : decode cX7_quantityOf 1 = .ok (.aload_n 0, 1) := by decide +kernel
theorem dX7_quantityOf_2 : decode cX7_quantityOf 2 = .ok (.getfield 10, 3) := by decide +kernel
theorem dX7_quantityOf_5 : decode cX7_quantityOf 5 = .ok (.getfield 107, 3) := by decide +kernel
theorem dX7_quantityOf_8 : decode cX7_quantityOf 8 = .ok (.invokestatic 76, 3) := by decide +kernel
theorem dX7_quantityOf_11 : decode cX7_quantityOf 11 = .ok (.aload_n 0, 1) := by decide +kernel
theorem dX7_quantityOf_12 : decode cX7_quantityOf 12 = .ok (.getfield 10, 3) := by decide +kernel
theorem dX7_quantityOf_15 : decode cX7_quantityOf 15 = .ok (.getfield 119, 3) := by decide +kernel
theorem dX7_quantityOf_18 : decode cX7_quantityOf 18 = .ok (.iload_n 1, 1) := by decide +kernel
theorem dX7_quantityOf_19 : decode cX7_quantityOf 19 = .ok (.iaload, 1) := by decide +kernel
theorem dX7_quantityOf_20 : decode cX7_quantityOf 20 = .ok (.ireturn, 1) := by decide +kernel
theorem dX7_daysLeft_0 : decode cX7_daysLeft 0 = .ok (.iload_n 1, 1) := by decide +kernel
theorem dX7_daysLeft_1 : decode cX7_daysLeft 1 = .ok (.aload_n 0, 1) := by decide +kernel
theorem dX7_daysLeft_2 : decode cX7_daysLeft 2 = .ok (.getfield 10, 3) := by decide +kernel
theorem dX7_daysLeft_5 : decode cX7_daysLeft 5 = .ok (.getfield 107, 3) := by decide +kernel
theorem dX7_daysLeft_8 : decode cX7_daysLeft 8 = .ok (.invokestatic 76, 3) := by decide +kernel
theorem dX7_daysLeft_11 : decode cX7_daysLeft 11 = .ok (.aload_n 0, 1) := by decide +kernel
theorem dX7_daysLeft_12 : decode cX7_daysLeft 12 = .ok (.getfield 10, 3) := by decide +kernel
theorem dX7_daysLeft_15 : decode cX7_daysLeft 15 = .ok (.getfield 122, 3) := by decide +kernel
theorem dX7_daysLeft_18 : decode cX7_daysLeft 18 = .ok (.iload_n 1, 1) := by decide +kernel
theorem dX7_daysLeft_19 : decode cX7_daysLeft 19 = .ok (.iaload, 1) := by decide +kernel
theorem dX7_daysLeft_20 : decode cX7_daysLeft 20 = .ok (.aload_n 0, 1) := by decide +kernel
theorem dX7_daysLeft_21 : decode cX7_daysLeft 21 = .ok (.getfield 10, 3) := by decide +kernel
theorem dX7_daysLeft_24 : decode cX7_daysLeft 24 = .ok (.getfield 125, 3) := by decide +kernel
theorem dX7_daysLeft_27 : decode cX7_daysLeft 27 = .ok (.isub, 1) := by decide +kernel
theorem dX7_daysLeft_28 : decode cX7_daysLeft 28 = .ok (.ireturn, 1) := by decide +kernel
theorem dX7_marginOf_0 : decode cX7_marginOf 0 = .ok (.iload_n 1, 1) := by decide +kernel
theorem dX7_marginOf_1 : decode cX7_marginOf 1 = .ok (.aload_n 0, 1) := by decide +kernel
theorem dX7_marginOf_2 : decode cX7_marginOf 2 = .ok (.getfield 10, 3) := by decide +kernel
theorem dX7_marginOf_5 : decode cX7_marginOf 5 = .ok (.getfield 90, 3) := by decide +kernel
theorem dX7_marginOf_8 : decode cX7_marginOf 8 = .ok (.invokestatic 76, 3) := by decide +kernel
theorem dX7_marginOf_11 : decode cX7_marginOf 11 = .ok (.aload_n 0, 1) := by decide +kernel
theorem dX7_marginOf_12 : decode cX7_marginOf 12 = .ok (.getfield 10, 3) := by decide +kernel
theorem dX7_marginOf_15 : decode cX7_marginOf 15 = .ok (.iload_n 1, 1) := by decide +kernel
theorem dX7_marginOf_16 : decode cX7_marginOf 16 = .ok (.invokevirtual 128, 3) := by decide +kernel
theorem dX7_marginOf_19 : decode cX7_marginOf 19 = .ok (.ireturn, 1) := by decide +kernel
theorem dX7_marginByPositions_0 : decode cX7_marginByPositions 0 = .ok (.iload_n 1, 1) := by decide +kernel
theorem dX7_marginByPositions_1 : decode cX7_marginByPositions 1 = .ok (.aload_n 0, 1) := by decide +kernel
theorem dX7_marginByPositions_2 : decode cX7_marginByPositions 2 = .ok (.getfield 10, 3) := by decide +kernel
theorem dX7_marginByPositions_5 : decode cX7_marginByPositions 5 = .ok (.getfield 90, 3) := by decide +kernel
theorem dX7_marginByPositions_8 : decode cX7_marginByPositions 8 = .ok (.invokestatic 76, 3) := by decide +kernel
theorem dX7_marginByPositions_11 : decode cX7_marginByPositions 11 = .ok (.aload_n 0, 1) := by decide +kernel
theorem dX7_marginByPositions_12 : decode cX7_marginByPositions 12 = .ok (.getfield 10, 3) := by decide +kernel
theorem dX7_marginByPositions_15 : decode cX7_marginByPositions 15 = .ok (.iload_n 1, 1) := by decide +kernel
theorem dX7_marginByPositions_16 : decode cX7_marginByPositions 16 = .ok (.invokevirtual 131, 3) := by decide +kernel
theorem dX7_marginByPositions_19 : decode cX7_marginByPositions 19 = .ok (.ireturn, 1) := by decide +kernel
theorem dX7_variationOf_0 : decode cX7_variationOf 0 = .ok (.iload_n 1, 1) := by decide +kernel
theorem dX7_variationOf_1 : decode cX7_variationOf 1 = .ok (.aload_n 0, 1) := by decide +kernel
theorem dX7_variationOf_2 : decode cX7_variationOf 2 = .ok (.getfield 10, 3) := by decide +kernel
theorem dX7_variationOf_5 : decode cX7_variationOf 5 = .ok (.getfield 90, 3) := by decide +kernel
theorem dX7_variationOf_8 : decode cX7_variationOf 8 = .ok (.invokestatic 76, 3) := by decide +kernel
theorem dX7_variationOf_11 : decode cX7_variationOf 11 = .ok (.aload_n 0, 1) := by decide +kernel
theorem dX7_variationOf_12 : decode cX7_variationOf 12 = .ok (.getfield 10, 3) := by decide +kernel
theorem dX7_variationOf_15 : decode cX7_variationOf 15 = .ok (.iload_n 1, 1) := by decide +kernel
theorem dX7_variationOf_16 : decode cX7_variationOf 16 = .ok (.invokevirtual 134, 3) := by decide +kernel
theorem dX7_variationOf_19 : decode cX7_variationOf 19 = .ok (.ireturn, 1) := by decide +kernel
theorem dX7_payments_0 : decode cX7_payments 0 = .ok (.aload_n 0, 1) := by decide +kernel
theorem dX7_payments_1 : decode cX7_payments 1 = .ok (.getfield 32, 3) := by decide +kernel
theorem dX7_payments_4 : decode cX7_payments 4 = .ok (.aload_n 0, 1) := by decide +kernel
theorem dX7_payments_5 : decode cX7_payments 5 = .ok (.getfield 10, 3) := by decide +kernel
theorem dX7_payments_8 : decode cX7_payments 8 = .ok (.invokevirtual 137, 3) := by decide +kernel
theorem dX7_payments_11 : decode cX7_payments 11 = .ok (.aload_n 0, 1) := by decide +kernel
theorem dX7_payments_12 : decode cX7_payments 12 = .ok (.getfield 32, 3) := by decide +kernel
theorem dX7_payments_15 : decode cX7_payments 15 = .ok (.invokevirtual 141, 3) := by decide +kernel
theorem dX7_payments_18 : decode cX7_payments 18 = .ok (.ireturn, 1) := by decide +kernel
theorem dX7_paymentsByGroups_0 : decode cX7_paymentsByGroups 0 = .ok (.aload_n 0, 1) := by decide +kernel
theorem dX7_paymentsByGroups_1 : decode cX7_paymentsByGroups 1 = .ok (.getfield 32, 3) := by decide +kernel
theorem dX7_paymentsByGroups_4 : decode cX7_paymentsByGroups 4 = .ok (.aload_n 0, 1) := by decide +kernel
theorem dX7_paymentsByGroups_5 : decode cX7_paymentsByGroups 5 = .ok (.getfield 10, 3) := by decide +kernel
theorem dX7_paymentsByGroups_8 : decode cX7_paymentsByGroups 8 = .ok (.invokevirtual 137, 3) := by decide +kernel
theorem dX7_paymentsByGroups_11 : decode cX7_paymentsByGroups 11 = .ok (.aload_n 0, 1) := by decide +kernel
theorem dX7_paymentsByGroups_12 : decode cX7_paymentsByGroups 12 = .ok (.getfield 32, 3) := by decide +kernel
theorem dX7_paymentsByGroups_15 : decode cX7_paymentsByGroups 15 = .ok (.invokevirtual 145, 3) := by decide +kernel
theorem dX7_paymentsByGroups_18 : decode cX7_paymentsByGroups 18 = .ok (.ireturn, 1) := by decide +kernel
theorem dX7_leastMargins_0 : decode cX7_leastMargins 0 = .ok (.aload_n 0, 1) := by decide +kernel
theorem dX7_leastMargins_1 : decode cX7_leastMargins 1 = .ok (.iload_n 1, 1) := by decide +kernel
theorem dX7_leastMargins_2 : decode cX7_leastMargins 2 = .ok (.invokevirtual 148, 3) := by decide +kernel
theorem dX7_leastMargins_5 : decode cX7_leastMargins 5 = .ok (.invokestatic 151, 3) := by decide +kernel
theorem dX7_leastMargins_8 : decode cX7_leastMargins 8 = .ok (.aload_n 0, 1) := by decide +kernel
theorem dX7_leastMargins_9 : decode cX7_leastMargins 9 = .ok (.getfield 39, 3) := by decide +kernel
theorem dX7_leastMargins_12 : decode cX7_leastMargins 12 = .ok (.aload_n 0, 1) := by decide +kernel
theorem dX7_leastMargins_13 : decode cX7_leastMargins 13 = .ok (.getfield 10, 3) := by decide +kernel
theorem dX7_leastMargins_16 : decode cX7_leastMargins 16 = .ok (.invokevirtual 155, 3) := by decide +kernel
theorem dX7_leastMargins_19 : decode cX7_leastMargins 19 = .ok (.ireturn, 1) := by decide +kernel
theorem dX7_leastMarginsBySets_0 : decode cX7_leastMarginsBySets 0 = .ok (.aload_n 0, 1) := by decide +kernel
theorem dX7_leastMarginsBySets_1 : decode cX7_leastMarginsBySets 1 = .ok (.iload_n 1, 1) := by decide +kernel
theorem dX7_leastMarginsBySets_2 : decode cX7_leastMarginsBySets 2 = .ok (.invokevirtual 148, 3) := by decide +kernel
theorem dX7_leastMarginsBySets_5 : decode cX7_leastMarginsBySets 5 = .ok (.invokestatic 151, 3) := by decide +kernel
theorem dX7_leastMarginsBySets_8 : decode cX7_leastMarginsBySets 8 = .ok (.aload_n 0, 1) := by decide +kernel
theorem dX7_leastMarginsBySets_9 : decode cX7_leastMarginsBySets 9 = .ok (.getfield 39, 3) := by decide +kernel
theorem dX7_leastMarginsBySets_12 : decode cX7_leastMarginsBySets 12 = .ok (.aload_n 0, 1) := by decide +kernel
theorem dX7_leastMarginsBySets_13 : decode cX7_leastMarginsBySets 13 = .ok (.getfield 10, 3) := by decide +kernel
theorem dX7_leastMarginsBySets_16 : decode cX7_leastMarginsBySets 16 = .ok (.invokevirtual 159, 3) := by decide +kernel
theorem dX7_leastMarginsBySets_19 : decode cX7_leastMarginsBySets 19 = .ok (.ireturn, 1) := by decide +kernel
theorem dX7_takerOf_0 : decode cX7_takerOf 0 = .ok (.iload_n 2, 1) := by decide +kernel
theorem dX7_takerOf_1 : decode cX7_takerOf 1 = .ok (.aload_n 0, 1) := by decide +kernel
theorem dX7_takerOf_2 : decode cX7_takerOf 2 = .ok (.getfield 10, 3) := by decide +kernel
theorem dX7_takerOf_5 : decode cX7_takerOf 5 = .ok (.getfield 73, 3) := by decide +kernel
theorem dX7_takerOf_8 : decode cX7_takerOf 8 = .ok (.invokestatic 76, 3) := by decide +kernel
theorem dX7_takerOf_11 : decode cX7_takerOf 11 = .ok (.aload_n 0, 1) := by decide +kernel
theorem dX7_takerOf_12 : decode cX7_takerOf 12 = .ok (.iload_n 1, 1) := by decide +kernel
theorem dX7_takerOf_13 : decode cX7_takerOf 13 = .ok (.invokevirtual 148, 3) := by decide +kernel
theorem dX7_takerOf_16 : decode cX7_takerOf 16 = .ok (.invokestatic 151, 3) := by decide +kernel
theorem dX7_takerOf_19 : decode cX7_takerOf 19 = .ok (.aload_n 0, 1) := by decide +kernel
theorem dX7_takerOf_20 : decode cX7_takerOf 20 = .ok (.getfield 39, 3) := by decide +kernel
theorem dX7_takerOf_23 : decode cX7_takerOf 23 = .ok (.aload_n 0, 1) := by decide +kernel
theorem dX7_takerOf_24 : decode cX7_takerOf 24 = .ok (.getfield 10, 3) := by decide +kernel
theorem dX7_takerOf_27 : decode cX7_takerOf 27 = .ok (.invokevirtual 155, 3) := by decide +kernel
theorem dX7_takerOf_30 : decode cX7_takerOf 30 = .ok (.pop, 1) := by decide +kernel
theorem dX7_takerOf_31 : decode cX7_takerOf 31 = .ok (.aload_n 0, 1) := by decide +kernel
theorem dX7_takerOf_32 : decode cX7_takerOf 32 = .ok (.getfield 39, 3) := by decide +kernel
theorem dX7_takerOf_35 : decode cX7_takerOf 35 = .ok (.iload_n 2, 1) := by decide +kernel
theorem dX7_takerOf_36 : decode cX7_takerOf 36 = .ok (.invokevirtual 161, 3) := by decide +kernel
theorem dX7_takerOf_39 : decode cX7_takerOf 39 = .ok (.istore_n 3, 1) := by decide +kernel
theorem dX7_takerOf_40 : decode cX7_takerOf 40 = .ok (.iload_n 3, 1) := by decide +kernel
theorem dX7_takerOf_41 : decode cX7_takerOf 41 = .ok (.iconst (-1), 1) := by decide +kernel
theorem dX7_takerOf_42 : decode cX7_takerOf 42 = .ok (.if_icmp .ne 13, 3) := by decide +kernel
theorem dX7_takerOf_45 : decode cX7_takerOf 45 = .ok (.new 164, 3) := by decide +kernel
theorem dX7_takerOf_48 : decode cX7_takerOf 48 = .ok (.dup, 1) := by decide +kernel
theorem dX7_takerOf_49 : decode cX7_takerOf 49 = .ok (.ldc 166, 2) := by decide +kernel
theorem dX7_takerOf_51 : decode cX7_takerOf 51 = .ok (.invokespecial 168, 3) := by decide +kernel
theorem dX7_takerOf_54 : decode cX7_takerOf 54 = .ok (.athrow, 1) := by decide +kernel
theorem dX7_takerOf_55 : decode cX7_takerOf 55 = .ok (.iload_n 3, 1) := by decide +kernel
theorem dX7_takerOf_56 : decode cX7_takerOf 56 = .ok (.ireturn, 1) := by decide +kernel
theorem dX7_traderByMoney_0 : decode cX7_traderByMoney 0 = .ok (.aload_n 0, 1) := by decide +kernel
theorem dX7_traderByMoney_1 : decode cX7_traderByMoney 1 = .ok (.getfield 10, 3) := by decide +kernel
theorem dX7_traderByMoney_4 : decode cX7_traderByMoney 4 = .ok (.iload_n 1, 1) := by decide +kernel
theorem dX7_traderByMoney_5 : decode cX7_traderByMoney 5 = .ok (.invokevirtual 171, 3) := by decide +kernel
theorem dX7_traderByMoney_8 : decode cX7_traderByMoney 8 = .ok (.istore_n 2, 1) := by decide +kernel
theorem dX7_traderByMoney_9 : decode cX7_traderByMoney 9 = .ok (.iload_n 2, 1) := by decide +kernel
theorem dX7_traderByMoney_10 : decode cX7_traderByMoney 10 = .ok (.iconst (-1), 1) := by decide +kernel
theorem dX7_traderByMoney_11 : decode cX7_traderByMoney 11 = .ok (.if_icmp .ne 13, 3) := by decide +kernel
theorem dX7_traderByMoney_14 : decode cX7_traderByMoney 14 = .ok (.new 164, 3) := by decide +kernel
theorem dX7_traderByMoney_17 : decode cX7_traderByMoney 17 = .ok (.dup, 1) := by decide +kernel
theorem dX7_traderByMoney_18 : decode cX7_traderByMoney 18 = .ok (.ldc 174, 2) := by decide +kernel
theorem dX7_traderByMoney_20 : decode cX7_traderByMoney 20 = .ok (.invokespecial 168, 3) := by decide +kernel
theorem dX7_traderByMoney_23 : decode cX7_traderByMoney 23 = .ok (.athrow, 1) := by decide +kernel
theorem dX7_traderByMoney_24 : decode cX7_traderByMoney 24 = .ok (.iload_n 2, 1) := by decide +kernel
theorem dX7_traderByMoney_25 : decode cX7_traderByMoney 25 = .ok (.ireturn, 1) := by decide +kernel
theorem dX7_fund_0 : decode cX7_fund 0 = .ok (.aload_n 0, 1) := by decide +kernel
theorem dX7_fund_1 : decode cX7_fund 1 = .ok (.getfield 10, 3) := by decide +kernel
theorem dX7_fund_4 : decode cX7_fund 4 = .ok (.getfield 176, 3) := by decide +kernel
theorem dX7_fund_7 : decode cX7_fund 7 = .ok (.ireturn, 1) := by decide +kernel
theorem dX7_writtenOff_0 : decode cX7_writtenOff 0 = .ok (.aload_n 0, 1) := by decide +kernel
theorem dX7_writtenOff_1 : decode cX7_writtenOff 1 = .ok (.getfield 10, 3) := by decide +kernel
theorem dX7_writtenOff_4 : decode cX7_writtenOff 4 = .ok (.getfield 179, 3) := by decide +kernel
theorem dX7_writtenOff_7 : decode cX7_writtenOff 7 = .ok (.ireturn, 1) := by decide +kernel
theorem dX7_broughtIn_0 : decode cX7_broughtIn 0 = .ok (.aload_n 0, 1) := by decide +kernel
theorem dX7_broughtIn_1 : decode cX7_broughtIn 1 = .ok (.getfield 10, 3) := by decide +kernel
theorem dX7_broughtIn_4 : decode cX7_broughtIn 4 = .ok (.getfield 182, 3) := by decide +kernel
theorem dX7_broughtIn_7 : decode cX7_broughtIn 7 = .ok (.lreturn, 1) := by decide +kernel
theorem dX7_withdrawn_0 : decode cX7_withdrawn 0 = .ok (.aload_n 0, 1) := by decide +kernel
theorem dX7_withdrawn_1 : decode cX7_withdrawn 1 = .ok (.getfield 10, 3) := by decide +kernel
theorem dX7_withdrawn_4 : decode cX7_withdrawn 4 = .ok (.getfield 186, 3) := by decide +kernel
theorem dX7_withdrawn_7 : decode cX7_withdrawn 7 = .ok (.lreturn, 1) := by decide +kernel
theorem dX7_dayCount_0 : decode cX7_dayCount 0 = .ok (.aload_n 0, 1) := by decide +kernel
theorem dX7_dayCount_1 : decode cX7_dayCount 1 = .ok (.getfield 10, 3) := by decide +kernel
theorem dX7_dayCount_4 : decode cX7_dayCount 4 = .ok (.getfield 125, 3) := by decide +kernel
theorem dX7_dayCount_7 : decode cX7_dayCount 7 = .ok (.ireturn, 1) := by decide +kernel
theorem dX7_meanMargin_0 : decode cX7_meanMargin 0 = .ok (.aload_n 0, 1) := by decide +kernel
theorem dX7_meanMargin_1 : decode cX7_meanMargin 1 = .ok (.getfield 10, 3) := by decide +kernel
theorem dX7_meanMargin_4 : decode cX7_meanMargin 4 = .ok (.getfield 90, 3) := by decide +kernel
theorem dX7_meanMargin_7 : decode cX7_meanMargin 7 = .ok (.ifCond .ne 13, 3) := by decide +kernel
theorem dX7_meanMargin_10 : decode cX7_meanMargin 10 = .ok (.new 189, 3) := by decide +kernel
theorem dX7_meanMargin_13 : decode cX7_meanMargin 13 = .ok (.dup, 1) := by decide +kernel
theorem dX7_meanMargin_14 : decode cX7_meanMargin 14 = .ok (.ldc 191, 2) := by decide +kernel
theorem dX7_meanMargin_16 : decode cX7_meanMargin 16 = .ok (.invokespecial 193, 3) := by decide +kernel
theorem dX7_meanMargin_19 : decode cX7_meanMargin 19 = .ok (.athrow, 1) := by decide +kernel
theorem dX7_meanMargin_20 : decode cX7_meanMargin 20 = .ok (.iconst 0, 1) := by decide +kernel
theorem dX7_meanMargin_21 : decode cX7_meanMargin 21 = .ok (.istore_n 1, 1) := by decide +kernel
theorem dX7_meanMargin_22 : decode cX7_meanMargin 22 = .ok (.iconst 0, 1) := by decide +kernel
theorem dX7_meanMargin_23 : decode cX7_meanMargin 23 = .ok (.istore_n 2, 1) := by decide +kernel
theorem dX7_meanMargin_24 : decode cX7_meanMargin 24 = .ok (.iload_n 2, 1) := by decide +kernel
theorem dX7_meanMargin_25 : decode cX7_meanMargin 25 = .ok (.aload_n 0, 1) := by decide +kernel
theorem dX7_meanMargin_26 : decode cX7_meanMargin 26 = .ok (.getfield 10, 3) := by decide +kernel
theorem dX7_meanMargin_29 : decode cX7_meanMargin 29 = .ok (.getfield 90, 3) := by decide +kernel
theorem dX7_meanMargin_32 : decode cX7_meanMargin 32 = .ok (.if_icmp .ge 20, 3) := by decide +kernel
theorem dX7_meanMargin_35 : decode cX7_meanMargin 35 = .ok (.iload_n 1, 1) := by decide +kernel
theorem dX7_meanMargin_36 : decode cX7_meanMargin 36 = .ok (.aload_n 0, 1) := by decide +kernel
theorem dX7_meanMargin_37 : decode cX7_meanMargin 37 = .ok (.getfield 10, 3) := by decide +kernel
theorem dX7_meanMargin_40 : decode cX7_meanMargin 40 = .ok (.iload_n 2, 1) := by decide +kernel
theorem dX7_meanMargin_41 : decode cX7_meanMargin 41 = .ok (.invokevirtual 131, 3) := by decide +kernel
theorem dX7_meanMargin_44 : decode cX7_meanMargin 44 = .ok (.iadd, 1) := by decide +kernel
theorem dX7_meanMargin_45 : decode cX7_meanMargin 45 = .ok (.istore_n 1, 1) := by decide +kernel
theorem dX7_meanMargin_46 : decode cX7_meanMargin 46 = .ok (.iinc 2 1, 3) := by decide +kernel
theorem dX7_meanMargin_49 : decode cX7_meanMargin 49 = .ok (.goto (-25), 3) := by decide +kernel
theorem dX7_meanMargin_52 : decode cX7_meanMargin 52 = .ok (.iload_n 1, 1) := by decide +kernel
theorem dX7_meanMargin_53 : decode cX7_meanMargin 53 = .ok (.i2d, 1) := by decide +kernel
theorem dX7_meanMargin_54 : decode cX7_meanMargin 54 = .ok (.aload_n 0, 1) := by decide +kernel
theorem dX7_meanMargin_55 : decode cX7_meanMargin 55 = .ok (.getfield 10, 3) := by decide +kernel
theorem dX7_meanMargin_58 : decode cX7_meanMargin 58 = .ok (.getfield 90, 3) := by decide +kernel
theorem dX7_meanMargin_61 : decode cX7_meanMargin 61 = .ok (.i2d, 1) := by decide +kernel
theorem dX7_meanMargin_62 : decode cX7_meanMargin 62 = .ok (.ddiv, 1) := by decide +kernel
theorem dX7_meanMargin_63 : decode cX7_meanMargin 63 = .ok (.dreturn, 1) := by decide +kernel
theorem dX7_soundShare_0 : decode cX7_soundShare 0 = .ok (.aload_n 0, 1) := by decide +kernel
theorem dX7_soundShare_1 : decode cX7_soundShare 1 = .ok (.getfield 10, 3) := by decide +kernel
theorem dX7_soundShare_4 : decode cX7_soundShare 4 = .ok (.getfield 90, 3) := by decide +kernel
theorem dX7_soundShare_7 : decode cX7_soundShare 7 = .ok (.ifCond .ne 13, 3) := by decide +kernel
theorem dX7_soundShare_10 : decode cX7_soundShare 10 = .ok (.new 189, 3) := by decide +kernel
theorem dX7_soundShare_13 : decode cX7_soundShare 13 = .ok (.dup, 1) := by decide +kernel
theorem dX7_soundShare_14 : decode cX7_soundShare 14 = .ok (.ldc 191, 2) := by decide +kernel
theorem dX7_soundShare_16 : decode cX7_soundShare 16 = .ok (.invokespecial 193, 3) := by decide +kernel
theorem dX7_soundShare_19 : decode cX7_soundShare 19 = .ok (.athrow, 1) := by decide +kernel
theorem dX7_soundShare_20 : decode cX7_soundShare 20 = .ok (.iconst 0, 1) := by decide +kernel
theorem dX7_soundShare_21 : decode cX7_soundShare 21 = .ok (.istore_n 1, 1) := by decide +kernel
theorem dX7_soundShare_22 : decode cX7_soundShare 22 = .ok (.iconst 0, 1) := by decide +kernel
theorem dX7_soundShare_23 : decode cX7_soundShare 23 = .ok (.istore_n 2, 1) := by decide +kernel
theorem dX7_soundShare_24 : decode cX7_soundShare 24 = .ok (.iload_n 2, 1) := by decide +kernel
theorem dX7_soundShare_25 : decode cX7_soundShare 25 = .ok (.aload_n 0, 1) := by decide +kernel
theorem dX7_soundShare_26 : decode cX7_soundShare 26 = .ok (.getfield 10, 3) := by decide +kernel
theorem dX7_soundShare_29 : decode cX7_soundShare 29 = .ok (.getfield 90, 3) := by decide +kernel
theorem dX7_soundShare_32 : decode cX7_soundShare 32 = .ok (.if_icmp .ge 24, 3) := by decide +kernel
theorem dX7_soundShare_35 : decode cX7_soundShare 35 = .ok (.aload_n 0, 1) := by decide +kernel
theorem dX7_soundShare_36 : decode cX7_soundShare 36 = .ok (.getfield 10, 3) := by decide +kernel
theorem dX7_soundShare_39 : decode cX7_soundShare 39 = .ok (.getfield 96, 3) := by decide +kernel
theorem dX7_soundShare_42 : decode cX7_soundShare 42 = .ok (.iload_n 2, 1) := by decide +kernel
theorem dX7_soundShare_43 : decode cX7_soundShare 43 = .ok (.iaload, 1) := by decide +kernel
theorem dX7_soundShare_44 : decode cX7_soundShare 44 = .ok (.ifCond .ne 6, 3) := by decide +kernel
theorem dX7_soundShare_47 : decode cX7_soundShare 47 = .ok (.iinc 1 1, 3) := by decide +kernel
theorem dX7_soundShare_50 : decode cX7_soundShare 50 = .ok (.iinc 2 1, 3) := by decide +kernel
theorem dX7_soundShare_53 : decode cX7_soundShare 53 = .ok (.goto (-29), 3) := by decide +kernel
theorem dX7_soundShare_56 : decode cX7_soundShare 56 = .ok (.iload_n 1, 1) := by decide +kernel
theorem dX7_soundShare_57 : decode cX7_soundShare 57 = .ok (.i2f, 1) := by decide +kernel
theorem dX7_soundShare_58 : decode cX7_soundShare 58 = .ok (.aload_n 0, 1) := by decide +kernel
theorem dX7_soundShare_59 : decode cX7_soundShare 59 = .ok (.getfield 10, 3) := by decide +kernel
theorem dX7_soundShare_62 : decode cX7_soundShare 62 = .ok (.getfield 90, 3) := by decide +kernel
theorem dX7_soundShare_65 : decode cX7_soundShare 65 = .ok (.i2f, 1) := by decide +kernel
theorem dX7_soundShare_66 : decode cX7_soundShare 66 = .ok (.fdiv, 1) := by decide +kernel
theorem dX7_soundShare_67 : decode cX7_soundShare 67 = .ok (.freturn, 1) := by decide +kernel
theorem dX7_writeContract_0 : decode cX7_writeContract 0 = .ok (.iload_n 1, 1) := by decide +kernel
theorem dX7_writeContract_1 : decode cX7_writeContract 1 = .ok (.aload_n 0, 1) := by decide +kernel
theorem dX7_writeContract_2 : decode cX7_writeContract 2 = .ok (.getfield 10, 3) := by decide +kernel
theorem dX7_writeContract_5 : decode cX7_writeContract 5 = .ok (.getfield 107, 3) := by decide +kernel
theorem dX7_writeContract_8 : decode cX7_writeContract 8 = .ok (.invokestatic 76, 3) := by decide +kernel
theorem dX7_writeContract_11 : decode cX7_writeContract 11 = .ok (.aload_n 0, 1) := by decide +kernel
theorem dX7_writeContract_12 : decode cX7_writeContract 12 = .ok (.getfield 57, 3) := by decide +kernel
theorem dX7_writeContract_15 : decode cX7_writeContract 15 = .ok (.iconst 0, 1) := by decide +kernel
theorem dX7_writeContract_16 : decode cX7_writeContract 16 = .ok (.invokevirtual 194, 3) := by decide +kernel
theorem dX7_writeContract_19 : decode cX7_writeContract 19 = .ok (.aload_n 0, 1) := by decide +kernel
theorem dX7_writeContract_20 : decode cX7_writeContract 20 = .ok (.getfield 57, 3) := by decide +kernel
theorem dX7_writeContract_23 : decode cX7_writeContract 23 = .ok (.aload_n 0, 1) := by decide +kernel
theorem dX7_writeContract_24 : decode cX7_writeContract 24 = .ok (.getfield 10, 3) := by decide +kernel
theorem dX7_writeContract_27 : decode cX7_writeContract 27 = .ok (.getfield 110, 3) := by decide +kernel
theorem dX7_writeContract_30 : decode cX7_writeContract 30 = .ok (.iload_n 1, 1) := by decide +kernel
theorem dX7_writeContract_31 : decode cX7_writeContract 31 = .ok (.iaload, 1) := by decide +kernel
theorem dX7_writeContract_32 : decode cX7_writeContract 32 = .ok (.invokevirtual 197, 3) := by decide +kernel
theorem dX7_writeContract_35 : decode cX7_writeContract 35 = .ok (.bipush 60, 2) := by decide +kernel
theorem dX7_writeContract_37 : decode cX7_writeContract 37 = .ok (.invokevirtual 201, 3) := by decide +kernel
theorem dX7_writeContract_40 : decode cX7_writeContract 40 = .ok (.aload_n 0, 1) := by decide +kernel
theorem dX7_writeContract_41 : decode cX7_writeContract 41 = .ok (.getfield 10, 3) := by decide +kernel
theorem dX7_writeContract_44 : decode cX7_writeContract 44 = .ok (.getfield 113, 3) := by decide +kernel
theorem dX7_writeContract_47 : decode cX7_writeContract 47 = .ok (.iload_n 1, 1) := by decide +kernel
theorem dX7_writeContract_48 : decode cX7_writeContract 48 = .ok (.iaload, 1) := by decide +kernel
theorem dX7_writeContract_49 : decode cX7_writeContract 49 = .ok (.invokevirtual 197, 3) := by decide +kernel
theorem dX7_writeContract_52 : decode cX7_writeContract 52 = .ok (.pop, 1) := by decide +kernel
theorem dX7_writeContract_53 : decode cX7_writeContract 53 = .ok (.aload_n 0, 1) := by decide +kernel
theorem dX7_writeContract_54 : decode cX7_writeContract 54 = .ok (.getfield 57, 3) := by decide +kernel
theorem dX7_writeContract_57 : decode cX7_writeContract 57 = .ok (.bipush 58, 2) := by decide +kernel
theorem dX7_writeContract_59 : decode cX7_writeContract 59 = .ok (.invokevirtual 201, 3) := by decide +kernel
theorem dX7_writeContract_62 : decode cX7_writeContract 62 = .ok (.aload_n 0, 1) := by decide +kernel
theorem dX7_writeContract_63 : decode cX7_writeContract 63 = .ok (.getfield 10, 3) := by decide +kernel
theorem dX7_writeContract_66 : decode cX7_writeContract 66 = .ok (.getfield 119, 3) := by decide +kernel
theorem dX7_writeContract_69 : decode cX7_writeContract 69 = .ok (.iload_n 1, 1) := by decide +kernel
theorem dX7_writeContract_70 : decode cX7_writeContract 70 = .ok (.iaload, 1) := by decide +kernel
theorem dX7_writeContract_71 : decode cX7_writeContract 71 = .ok (.invokevirtual 197, 3) := by decide +kernel
theorem dX7_writeContract_74 : decode cX7_writeContract 74 = .ok (.bipush 104, 2) := by decide +kernel
theorem dX7_writeContract_76 : decode cX7_writeContract 76 = .ok (.invokevirtual 201, 3) := by decide +kernel
theorem dX7_writeContract_79 : decode cX7_writeContract 79 = .ok (.aload_n 0, 1) := by decide +kernel
theorem dX7_writeContract_80 : decode cX7_writeContract 80 = .ok (.getfield 10, 3) := by decide +kernel
theorem dX7_writeContract_83 : decode cX7_writeContract 83 = .ok (.getfield 116, 3) := by decide +kernel
theorem dX7_writeContract_86 : decode cX7_writeContract 86 = .ok (.iload_n 1, 1) := by decide +kernel
theorem dX7_writeContract_87 : decode cX7_writeContract 87 = .ok (.iaload, 1) := by decide +kernel
theorem dX7_writeContract_88 : decode cX7_writeContract 88 = .ok (.invokevirtual 197, 3) := by decide +kernel
theorem dX7_writeContract_91 : decode cX7_writeContract 91 = .ok (.pop, 1) := by decide +kernel
theorem dX7_writeContract_92 : decode cX7_writeContract 92 = .ok (.aload_n 0, 1) := by decide +kernel
theorem dX7_writeContract_93 : decode cX7_writeContract 93 = .ok (.getfield 57, 3) := by decide +kernel
theorem dX7_writeContract_96 : decode cX7_writeContract 96 = .ok (.bipush 43, 2) := by decide +kernel
theorem dX7_writeContract_98 : decode cX7_writeContract 98 = .ok (.invokevirtual 201, 3) := by decide +kernel
theorem dX7_writeContract_101 : decode cX7_writeContract 101 = .ok (.aload_n 0, 1) := by decide +kernel
theorem dX7_writeContract_102 : decode cX7_writeContract 102 = .ok (.getfield 10, 3) := by decide +kernel
theorem dX7_writeContract_105 : decode cX7_writeContract 105 = .ok (.getfield 122, 3) := by decide +kernel
theorem dX7_writeContract_108 : decode cX7_writeContract 108 = .ok (.iload_n 1, 1) := by decide +kernel
theorem dX7_writeContract_109 : decode cX7_writeContract 109 = .ok (.iaload, 1) := by decide +kernel
theorem dX7_writeContract_110 : decode cX7_writeContract 110 = .ok (.aload_n 0, 1) := by decide +kernel
theorem dX7_writeContract_111 : decode cX7_writeContract 111 = .ok (.getfield 10, 3) := by decide +kernel
theorem dX7_writeContract_114 : decode cX7_writeContract 114 = .ok (.getfield 125, 3) := by decide +kernel
theorem dX7_writeContract_117 : decode cX7_writeContract 117 = .ok (.isub, 1) := by decide +kernel
theorem dX7_writeContract_118 : decode cX7_writeContract 118 = .ok (.invokevirtual 197, 3) := by decide +kernel
theorem dX7_writeContract_121 : decode cX7_writeContract 121 = .ok (.pop, 1) := by decide +kernel
theorem dX7_writeContract_122 : decode cX7_writeContract 122 = .ok (.aload_n 0, 1) := by decide +kernel
theorem dX7_writeContract_123 : decode cX7_writeContract 123 = .ok (.getfield 57, 3) := by decide +kernel
theorem dX7_writeContract_126 : decode cX7_writeContract 126 = .ok (.invokevirtual 204, 3) := by decide +kernel
theorem dX7_writeContract_129 : decode cX7_writeContract 129 = .ok (.ireturn, 1) := by decide +kernel
theorem dX7_writeTrader_0 : decode cX7_writeTrader 0 = .ok (.iload_n 1, 1) := by decide +kernel
theorem dX7_writeTrader_1 : decode cX7_writeTrader 1 = .ok (.aload_n 0, 1) := by decide +kernel
theorem dX7_writeTrader_2 : decode cX7_writeTrader 2 = .ok (.getfield 10, 3) := by decide +kernel
theorem dX7_writeTrader_5 : decode cX7_writeTrader 5 = .ok (.getfield 90, 3) := by decide +kernel
theorem dX7_writeTrader_8 : decode cX7_writeTrader 8 = .ok (.invokestatic 76, 3) := by decide +kernel
theorem dX7_writeTrader_11 : decode cX7_writeTrader 11 = .ok (.aload_n 0, 1) := by decide +kernel
theorem dX7_writeTrader_12 : decode cX7_writeTrader 12 = .ok (.getfield 57, 3) := by decide +kernel
theorem dX7_writeTrader_15 : decode cX7_writeTrader 15 = .ok (.iconst 0, 1) := by decide +kernel
theorem dX7_writeTrader_16 : decode cX7_writeTrader 16 = .ok (.invokevirtual 194, 3) := by decide +kernel
theorem dX7_writeTrader_19 : decode cX7_writeTrader 19 = .ok (.aload_n 0, 1) := by decide +kernel
theorem dX7_writeTrader_20 : decode cX7_writeTrader 20 = .ok (.getfield 57, 3) := by decide +kernel
theorem dX7_writeTrader_23 : decode cX7_writeTrader 23 = .ok (.aload_n 0, 1) := by decide +kernel
theorem dX7_writeTrader_24 : decode cX7_writeTrader 24 = .ok (.getfield 10, 3) := by decide +kernel
theorem dX7_writeTrader_27 : decode cX7_writeTrader 27 = .ok (.getfield 93, 3) := by decide +kernel
theorem dX7_writeTrader_30 : decode cX7_writeTrader 30 = .ok (.iload_n 1, 1) := by decide +kernel
theorem dX7_writeTrader_31 : decode cX7_writeTrader 31 = .ok (.iaload, 1) := by decide +kernel
theorem dX7_writeTrader_32 : decode cX7_writeTrader 32 = .ok (.invokevirtual 197, 3) := by decide +kernel
theorem dX7_writeTrader_35 : decode cX7_writeTrader 35 = .ok (.bipush 47, 2) := by decide +kernel
theorem dX7_writeTrader_37 : decode cX7_writeTrader 37 = .ok (.invokevirtual 201, 3) := by decide +kernel
theorem dX7_writeTrader_40 : decode cX7_writeTrader 40 = .ok (.aload_n 0, 1) := by decide +kernel
theorem dX7_writeTrader_41 : decode cX7_writeTrader 41 = .ok (.getfield 10, 3) := by decide +kernel
theorem dX7_writeTrader_44 : decode cX7_writeTrader 44 = .ok (.iload_n 1, 1) := by decide +kernel
theorem dX7_writeTrader_45 : decode cX7_writeTrader 45 = .ok (.invokevirtual 131, 3) := by decide +kernel
theorem dX7_writeTrader_48 : decode cX7_writeTrader 48 = .ok (.invokevirtual 197, 3) := by decide +kernel
theorem dX7_writeTrader_51 : decode cX7_writeTrader 51 = .ok (.pop, 1) := by decide +kernel
theorem dX7_writeTrader_52 : decode cX7_writeTrader 52 = .ok (.aload_n 0, 1) := by decide +kernel
theorem dX7_writeTrader_53 : decode cX7_writeTrader 53 = .ok (.getfield 10, 3) := by decide +kernel
theorem dX7_writeTrader_56 : decode cX7_writeTrader 56 = .ok (.getfield 96, 3) := by decide +kernel
theorem dX7_writeTrader_59 : decode cX7_writeTrader 59 = .ok (.iload_n 1, 1) := by decide +kernel
theorem dX7_writeTrader_60 : decode cX7_writeTrader 60 = .ok (.iaload, 1) := by decide +kernel
theorem dX7_writeTrader_61 : decode cX7_writeTrader 61 = .ok (.iconst 1, 1) := by decide +kernel
theorem dX7_writeTrader_62 : decode cX7_writeTrader 62 = .ok (.if_icmp .ne 16, 3) := by decide +kernel
theorem dX7_writeTrader_65 : decode cX7_writeTrader 65 = .ok (.aload_n 0, 1) := by decide +kernel
theorem dX7_writeTrader_66 : decode cX7_writeTrader 66 = .ok (.getfield 57, 3) := by decide +kernel
theorem dX7_writeTrader_69 : decode cX7_writeTrader 69 = .ok (.bipush 33, 2) := by decide +kernel
theorem dX7_writeTrader_71 : decode cX7_writeTrader 71 = .ok (.invokevirtual 201, 3) := by decide +kernel
theorem dX7_writeTrader_74 : decode cX7_writeTrader 74 = .ok (.pop, 1) := by decide +kernel
theorem dX7_writeTrader_75 : decode cX7_writeTrader 75 = .ok (.goto 26, 3) := by decide +kernel
theorem dX7_writeTrader_78 : decode cX7_writeTrader 78 = .ok (.aload_n 0, 1) := by decide +kernel
theorem dX7_writeTrader_79 : decode cX7_writeTrader 79 = .ok (.getfield 10, 3) := by decide +kernel
theorem dX7_writeTrader_82 : decode cX7_writeTrader 82 = .ok (.getfield 96, 3) := by decide +kernel
theorem dX7_writeTrader_85 : decode cX7_writeTrader 85 = .ok (.iload_n 1, 1) := by decide +kernel
theorem dX7_writeTrader_86 : decode cX7_writeTrader 86 = .ok (.iaload, 1) := by decide +kernel
theorem dX7_writeTrader_87 : decode cX7_writeTrader 87 = .ok (.iconst 2, 1) := by decide +kernel
theorem dX7_writeTrader_88 : decode cX7_writeTrader 88 = .ok (.if_icmp .ne 13, 3) := by decide +kernel
theorem dX7_writeTrader_91 : decode cX7_writeTrader 91 = .ok (.aload_n 0, 1) := by decide +kernel
theorem dX7_writeTrader_92 : decode cX7_writeTrader 92 = .ok (.getfield 57, 3) := by decide +kernel
theorem dX7_writeTrader_95 : decode cX7_writeTrader 95 = .ok (.bipush 120, 2) := by decide +kernel
theorem dX7_writeTrader_97 : decode cX7_writeTrader 97 = .ok (.invokevirtual 201, 3) := by decide +kernel
theorem dX7_writeTrader_100 : decode cX7_writeTrader 100 = .ok (.pop, 1) := by decide +kernel
theorem dX7_writeTrader_101 : decode cX7_writeTrader 101 = .ok (.aload_n 0, 1) := by decide +kernel
theorem dX7_writeTrader_102 : decode cX7_writeTrader 102 = .ok (.getfield 57, 3) := by decide +kernel
theorem dX7_writeTrader_105 : decode cX7_writeTrader 105 = .ok (.invokevirtual 204, 3) := by decide +kernel
theorem dX7_writeTrader_108 : decode cX7_writeTrader 108 = .ok (.ireturn, 1) := by decide +kernel
theorem dX7_lineAt_0 : decode cX7_lineAt 0 = .ok (.iload_n 1, 1) := by decide +kernel
theorem dX7_lineAt_1 : decode cX7_lineAt 1 = .ok (.aload_n 0, 1) := by decide +kernel
theorem dX7_lineAt_2 : decode cX7_lineAt 2 = .ok (.getfield 57, 3) := by decide +kernel
theorem dX7_lineAt_5 : decode cX7_lineAt 5 = .ok (.invokevirtual 204, 3) := by decide +kernel
theorem dX7_lineAt_8 : decode cX7_lineAt 8 = .ok (.invokestatic 76, 3) := by decide +kernel
theorem dX7_lineAt_11 : decode cX7_lineAt 11 = .ok (.aload_n 0, 1) := by decide +kernel
theorem dX7_lineAt_12 : decode cX7_lineAt 12 = .ok (.getfield 57, 3) := by decide +kernel
theorem dX7_lineAt_15 : decode cX7_lineAt 15 = .ok (.iload_n 1, 1) := by decide +kernel
theorem dX7_lineAt_16 : decode cX7_lineAt 16 = .ok (.invokevirtual 207, 3) := by decide +kernel
theorem dX7_lineAt_19 : decode cX7_lineAt 19 = .ok (.ireturn, 1) := by decide +kernel
theorem dX7_isConsistent_0 : decode cX7_isConsistent 0 = .ok (.aload_n 0, 1) := by decide +kernel
theorem dX7_isConsistent_1 : decode cX7_isConsistent 1 = .ok (.invokevirtual 211, 3) := by decide +kernel
theorem dX7_isConsistent_4 : decode cX7_isConsistent 4 = .ok (.ifCond .eq 41, 3) := by decide +kernel
theorem dX7_isConsistent_7 : decode cX7_isConsistent 7 = .ok (.aload_n 0, 1) := by decide +kernel
theorem dX7_isConsistent_8 : decode cX7_isConsistent 8 = .ok (.invokevirtual 215, 3) := by decide +kernel
theorem dX7_isConsistent_11 : decode cX7_isConsistent 11 = .ok (.ifCond .eq 34, 3) := by decide +kernel
theorem dX7_isConsistent_14 : decode cX7_isConsistent 14 = .ok (.aload_n 0, 1) := by decide +kernel
theorem dX7_isConsistent_15 : decode cX7_isConsistent 15 = .ok (.invokevirtual 218, 3) := by decide +kernel
theorem dX7_isConsistent_18 : decode cX7_isConsistent 18 = .ok (.ifCond .eq 27, 3) := by decide +kernel
theorem dX7_isConsistent_21 : decode cX7_isConsistent 21 = .ok (.aload_n 0, 1) := by decide +kernel
theorem dX7_isConsistent_22 : decode cX7_isConsistent 22 = .ok (.getfield 10, 3) := by decide +kernel
theorem dX7_isConsistent_25 : decode cX7_isConsistent 25 = .ok (.invokevirtual 221, 3) := by decide +kernel
theorem dX7_isConsistent_28 : decode cX7_isConsistent 28 = .ok (.ifCond .eq 17, 3) := by decide +kernel
theorem dX7_isConsistent_31 : decode cX7_isConsistent 31 = .ok (.aload_n 0, 1) := by decide +kernel
theorem dX7_isConsistent_32 : decode cX7_isConsistent 32 = .ok (.getfield 10, 3) := by decide +kernel
theorem dX7_isConsistent_35 : decode cX7_isConsistent 35 = .ok (.invokevirtual 224, 3) := by decide +kernel
theorem dX7_isConsistent_38 : decode cX7_isConsistent 38 = .ok (.ifCond .eq 7, 3) := by decide +kernel
theorem dX7_isConsistent_41 : decode cX7_isConsistent 41 = .ok (.iconst 1, 1) := by decide +kernel
theorem dX7_isConsistent_42 : decode cX7_isConsistent 42 = .ok (.goto 4, 3) := by decide +kernel
theorem dX7_isConsistent_45 : decode cX7_isConsistent 45 = .ok (.iconst 0, 1) := by decide +kernel
theorem dX7_isConsistent_46 : decode cX7_isConsistent 46 = .ok (.ireturn, 1) := by decide +kernel
theorem dX7_type_0 : decode cX7_type 0 = .ok (.iload_n 1, 1) := by decide +kernel
theorem dX7_type_1 : decode cX7_type 1 = .ok (.bipush 32, 2) := by decide +kernel
theorem dX7_type_3 : decode cX7_type 3 = .ok (.if_icmp .lt 9, 3) := by decide +kernel
theorem dX7_type_6 : decode cX7_type 6 = .ok (.iload_n 1, 1) := by decide +kernel
theorem dX7_type_7 : decode cX7_type 7 = .ok (.bipush 126, 2) := by decide +kernel
theorem dX7_type_9 : decode cX7_type 9 = .ok (.if_icmp .le 13, 3) := by decide +kernel
theorem dX7_type_12 : decode cX7_type 12 = .ok (.new 227, 3) := by decide +kernel
theorem dX7_type_15 : decode cX7_type 15 = .ok (.dup, 1) := by decide +kernel
theorem dX7_type_16 : decode cX7_type 16 = .ok (.ldc 229, 2) := by decide +kernel
theorem dX7_type_18 : decode cX7_type 18 = .ok (.invokespecial 231, 3) := by decide +kernel
theorem dX7_type_21 : decode cX7_type 21 = .ok (.athrow, 1) := by decide +kernel
theorem dX7_type_22 : decode cX7_type 22 = .ok (.aload_n 0, 1) := by decide +kernel
theorem dX7_type_23 : decode cX7_type 23 = .ok (.getfield 53, 3) := by decide +kernel
theorem dX7_type_26 : decode cX7_type 26 = .ok (.invokevirtual 204, 3) := by decide +kernel
theorem dX7_type_29 : decode cX7_type 29 = .ok (.bipush 60, 2) := by decide +kernel
theorem dX7_type_31 : decode cX7_type 31 = .ok (.if_icmp .lt 13, 3) := by decide +kernel
theorem dX7_type_34 : decode cX7_type 34 = .ok (.new 232, 3) := by decide +kernel
theorem dX7_type_37 : decode cX7_type 37 = .ok (.dup, 1) := by decide +kernel
theorem dX7_type_38 : decode cX7_type 38 = .ok (.ldc 234, 2) := by decide +kernel
theorem dX7_type_40 : decode cX7_type 40 = .ok (.invokespecial 236, 3) := by decide +kernel
theorem dX7_type_43 : decode cX7_type 43 = .ok (.athrow, 1) := by decide +kernel
theorem dX7_type_44 : decode cX7_type 44 = .ok (.aload_n 0, 1) := by decide +kernel
theorem dX7_type_45 : decode cX7_type 45 = .ok (.getfield 53, 3) := by decide +kernel
theorem dX7_type_48 : decode cX7_type 48 = .ok (.iload_n 1, 1) := by decide +kernel
theorem dX7_type_49 : decode cX7_type 49 = .ok (.invokevirtual 201, 3) := by decide +kernel
theorem dX7_type_52 : decode cX7_type 52 = .ok (.pop, 1) := by decide +kernel
theorem dX7_type_53 : decode cX7_type 53 = .ok (.aload_n 0, 1) := by decide +kernel
theorem dX7_type_54 : decode cX7_type 54 = .ok (.getfield 53, 3) := by decide +kernel
theorem dX7_type_57 : decode cX7_type 57 = .ok (.invokevirtual 204, 3) := by decide +kernel
theorem dX7_type_60 : decode cX7_type 60 = .ok (.ireturn, 1) := by decide +kernel
theorem dX7_execute_0 : decode cX7_execute 0 = .ok (.aload_n 0, 1) := by decide +kernel
theorem dX7_execute_1 : decode cX7_execute 1 = .ok (.getfield 46, 3) := by decide +kernel
theorem dX7_execute_4 : decode cX7_execute 4 = .ok (.aload_n 0, 1) := by decide +kernel
theorem dX7_execute_5 : decode cX7_execute 5 = .ok (.getfield 53, 3) := by decide +kernel
theorem dX7_execute_8 : decode cX7_execute 8 = .ok (.invokevirtual 237, 3) := by decide +kernel
theorem dX7_execute_11 : decode cX7_execute 11 = .ok (.istore_n 1, 1) := by decide +kernel
theorem dX7_execute_12 : decode cX7_execute 12 = .ok (.aload_n 0, 1) := by decide +kernel
theorem dX7_execute_13 : decode cX7_execute 13 = .ok (.getfield 53, 3) := by decide +kernel
theorem dX7_execute_16 : decode cX7_execute 16 = .ok (.iconst 0, 1) := by decide +kernel
theorem dX7_execute_17 : decode cX7_execute 17 = .ok (.invokevirtual 194, 3) := by decide +kernel
theorem dX7_execute_20 : decode cX7_execute 20 = .ok (.iload_n 1, 1) := by decide +kernel
theorem dX7_execute_21 : decode cX7_execute 21 = .ok (.ifCond .ne 24, 3) := by decide +kernel
theorem dX7_execute_24 : decode cX7_execute 24 = .ok (.aload_n 0, 1) := by decide +kernel
theorem dX7_execute_25 : decode cX7_execute 25 = .ok (.aload_n 0, 1) := by decide +kernel
theorem dX7_execute_26 : decode cX7_execute 26 = .ok (.getfield 46, 3) := by decide +kernel
theorem dX7_execute_29 : decode cX7_execute 29 = .ok (.getfield 241, 3) := by decide +kernel
theorem dX7_execute_32 : decode cX7_execute 32 = .ok (.putfield 60, 3) := by decide +kernel
theorem dX7_execute_35 : decode cX7_execute 35 = .ok (.new 227, 3) := by decide +kernel
theorem dX7_execute_38 : decode cX7_execute 38 = .ok (.dup, 1) := by decide +kernel
theorem dX7_execute_39 : decode cX7_execute 39 = .ok (.ldc 243, 2) := by decide +kernel
theorem dX7_execute_41 : decode cX7_execute 41 = .ok (.invokespecial 231, 3) := by decide +kernel
theorem dX7_execute_44 : decode cX7_execute 44 = .ok (.athrow, 1) := by decide +kernel
theorem dX7_execute_45 : decode cX7_execute 45 = .ok (.aload_n 0, 1) := by decide +kernel
theorem dX7_execute_46 : decode cX7_execute 46 = .ok (.getfield 16, 3) := by decide +kernel
theorem dX7_execute_49 : decode cX7_execute 49 = .ok (.aload_n 0, 1) := by decide +kernel
theorem dX7_execute_50 : decode cX7_execute 50 = .ok (.getfield 10, 3) := by decide +kernel
theorem dX7_execute_53 : decode cX7_execute 53 = .ok (.invokevirtual 245, 3) := by decide +kernel
theorem dX7_execute_56 : decode cX7_execute 56 = .ok (.iconst 0, 1) := by decide +kernel
theorem dX7_execute_57 : decode cX7_execute 57 = .ok (.istore_n 2, 1) := by decide +kernel
theorem dX7_execute_58 : decode cX7_execute 58 = .ok (.iload_n 2, 1) := by decide +kernel
theorem dX7_execute_59 : decode cX7_execute 59 = .ok (.aload_n 0, 1) := by decide +kernel
theorem dX7_execute_60 : decode cX7_execute 60 = .ok (.getfield 46, 3) := by decide +kernel
theorem dX7_execute_63 : decode cX7_execute 63 = .ok (.getfield 248, 3) := by decide +kernel
theorem dX7_execute_66 : decode cX7_execute 66 = .ok (.if_icmp .ge 134, 3) := by decide +kernel
theorem dX7_execute_69 : decode cX7_execute 69 = .ok (.aload_n 0, 1) := by decide +kernel
theorem dX7_execute_70 : decode cX7_execute 70 = .ok (.getfield 46, 3) := by decide +kernel
theorem dX7_execute_73 : decode cX7_execute 73 = .ok (.iload_n 2, 1) := by decide +kernel
theorem dX7_execute_74 : decode cX7_execute 74 = .ok (.invokevirtual 251, 3) := by decide +kernel
theorem dX7_execute_77 : decode cX7_execute 77 = .ok (.istore_n 3, 1) := by decide +kernel
theorem dX7_execute_78 : decode cX7_execute 78 = .ok (.aload_n 0, 1) := by decide +kernel
theorem dX7_execute_79 : decode cX7_execute 79 = .ok (.getfield 46, 3) := by decide +kernel
theorem dX7_execute_82 : decode cX7_execute 82 = .ok (.iload_n 2, 1) := by decide +kernel
theorem dX7_execute_83 : decode cX7_execute 83 = .ok (.iconst 0, 1) := by decide +kernel
theorem dX7_execute_84 : decode cX7_execute 84 = .ok (.invokevirtual 254, 3) := by decide +kernel
theorem dX7_execute_87 : decode cX7_execute 87 = .ok (.istore 4, 2) := by decide +kernel
theorem dX7_execute_89 : decode cX7_execute 89 = .ok (.aload_n 0, 1) := by decide +kernel
theorem dX7_execute_90 : decode cX7_execute 90 = .ok (.getfield 46, 3) := by decide +kernel
theorem dX7_execute_93 : decode cX7_execute 93 = .ok (.iload_n 2, 1) := by decide +kernel
theorem dX7_execute_94 : decode cX7_execute 94 = .ok (.iconst 1, 1) := by decide +kernel
theorem dX7_execute_95 : decode cX7_execute 95 = .ok (.invokevirtual 254, 3) := by decide +kernel
theorem dX7_execute_98 : decode cX7_execute 98 = .ok (.istore 5, 2) := by decide +kernel
theorem dX7_execute_100 : decode cX7_execute 100 = .ok (.aload_n 0, 1) := by decide +kernel
theorem dX7_execute_101 : decode cX7_execute 101 = .ok (.getfield 46, 3) := by decide +kernel
theorem dX7_execute_104 : decode cX7_execute 104 = .ok (.iload_n 2, 1) := by decide +kernel
theorem dX7_execute_105 : decode cX7_execute 105 = .ok (.iconst 2, 1) := by decide +kernel
theorem dX7_execute_106 : decode cX7_execute 106 = .ok (.invokevirtual 254, 3) := by decide +kernel
theorem dX7_execute_109 : decode cX7_execute 109 = .ok (.istore 6, 2) := by decide +kernel
theorem dX7_execute_111 : decode cX7_execute 111 = .ok (.aload_n 0, 1) := by decide +kernel
theorem dX7_execute_112 : decode cX7_execute 112 = .ok (.getfield 46, 3) := by decide +kernel
theorem dX7_execute_115 : decode cX7_execute 115 = .ok (.iload_n 2, 1) := by decide +kernel
theorem dX7_execute_116 : decode cX7_execute 116 = .ok (.iconst 3, 1) := by decide +kernel
theorem dX7_execute_117 : decode cX7_execute 117 = .ok (.invokevirtual 254, 3) := by decide +kernel
theorem dX7_execute_120 : decode cX7_execute 120 = .ok (.istore 7, 2) := by decide +kernel
theorem dX7_execute_122 : decode cX7_execute 122 = .ok (.aload_n 0, 1) := by decide +kernel
theorem dX7_execute_123 : decode cX7_execute 123 = .ok (.getfield 46, 3) := by decide +kernel
theorem dX7_execute_126 : decode cX7_execute 126 = .ok (.iload_n 2, 1) := by decide +kernel
theorem dX7_execute_127 : decode cX7_execute 127 = .ok (.iconst 4, 1) := by decide +kernel
theorem dX7_execute_128 : decode cX7_execute 128 = .ok (.invokevirtual 254, 3) := by decide +kernel
theorem dX7_execute_131 : decode cX7_execute 131 = .ok (.istore 8, 2) := by decide +kernel
theorem dX7_execute_133 : decode cX7_execute 133 = .ok (.aload_n 0, 1) := by decide +kernel
theorem dX7_execute_134 : decode cX7_execute 134 = .ok (.iload_n 3, 1) := by decide +kernel
theorem dX7_execute_135 : decode cX7_execute 135 = .ok (.iload 4, 2) := by decide +kernel
theorem dX7_execute_137 : decode cX7_execute 137 = .ok (.iload 5, 2) := by decide +kernel
theorem dX7_execute_139 : decode cX7_execute 139 = .ok (.iload 6, 2) := by decide +kernel
theorem dX7_execute_141 : decode cX7_execute 141 = .ok (.iload 7, 2) := by decide +kernel
theorem dX7_execute_143 : decode cX7_execute 143 = .ok (.iload 8, 2) := by decide +kernel
theorem dX7_execute_145 : decode cX7_execute 145 = .ok (.invokevirtual 257, 3) := by decide +kernel
theorem dX7_execute_148 : decode cX7_execute 148 = .ok (.ifCond .eq 30, 3) := by decide +kernel
theorem dX7_execute_151 : decode cX7_execute 151 = .ok (.aload_n 0, 1) := by decide +kernel
theorem dX7_execute_152 : decode cX7_execute 152 = .ok (.getfield 10, 3) := by decide +kernel
theorem dX7_execute_155 : decode cX7_execute 155 = .ok (.aload_n 0, 1) := by decide +kernel
theorem dX7_execute_156 : decode cX7_execute 156 = .ok (.getfield 16, 3) := by decide +kernel
theorem dX7_execute_159 : decode cX7_execute 159 = .ok (.invokevirtual 245, 3) := by decide +kernel
theorem dX7_execute_162 : decode cX7_execute 162 = .ok (.aload_n 0, 1) := by decide +kernel
theorem dX7_execute_163 : decode cX7_execute 163 = .ok (.iload_n 2, 1) := by decide +kernel
theorem dX7_execute_164 : decode cX7_execute 164 = .ok (.putfield 64, 3) := by decide +kernel
theorem dX7_execute_167 : decode cX7_execute 167 = .ok (.new 232, 3) := by decide +kernel
theorem dX7_execute_170 : decode cX7_execute 170 = .ok (.dup, 1) := by decide +kernel
theorem dX7_execute_171 : decode cX7_execute 171 = .ok (.ldc_w 260, 3) := by decide +kernel
theorem dX7_execute_174 : decode cX7_execute 174 = .ok (.invokespecial 236, 3) := by decide +kernel
theorem dX7_execute_177 : decode cX7_execute 177 = .ok (.athrow, 1) := by decide +kernel
theorem dX7_execute_178 : decode cX7_execute 178 = .ok (.aload_n 0, 1) := by decide +kernel
theorem dX7_execute_179 : decode cX7_execute 179 = .ok (.iload_n 3, 1) := by decide +kernel
theorem dX7_execute_180 : decode cX7_execute 180 = .ok (.iload 4, 2) := by decide +kernel
theorem dX7_execute_182 : decode cX7_execute 182 = .ok (.iload 5, 2) := by decide +kernel
theorem dX7_execute_184 : decode cX7_execute 184 = .ok (.iload 6, 2) := by decide +kernel
theorem dX7_execute_186 : decode cX7_execute 186 = .ok (.iload 7, 2) := by decide +kernel
theorem dX7_execute_188 : decode cX7_execute 188 = .ok (.iload 8, 2) := by decide +kernel
theorem dX7_execute_190 : decode cX7_execute 190 = .ok (.invokevirtual 262, 3) := by decide +kernel
theorem dX7_execute_193 : decode cX7_execute 193 = .ok (.pop, 1) := by decide +kernel
theorem dX7_execute_194 : decode cX7_execute 194 = .ok (.iinc 2 1, 3) := by decide +kernel
theorem dX7_execute_197 : decode cX7_execute 197 = .ok (.goto (-139), 3) := by decide +kernel
theorem dX7_execute_200 : decode cX7_execute 200 = .ok (.aload_n 0, 1) := by decide +kernel
theorem dX7_execute_201 : decode cX7_execute 201 = .ok (.getfield 25, 3) := by decide +kernel
theorem dX7_execute_204 : decode cX7_execute 204 = .ok (.aload_n 0, 1) := by decide +kernel
theorem dX7_execute_205 : decode cX7_execute 205 = .ok (.getfield 16, 3) := by decide +kernel
theorem dX7_execute_208 : decode cX7_execute 208 = .ok (.invokevirtual 265, 3) := by decide +kernel
theorem dX7_execute_211 : decode cX7_execute 211 = .ok (.aload_n 0, 1) := by decide +kernel
theorem dX7_execute_212 : decode cX7_execute 212 = .ok (.getfield 46, 3) := by decide +kernel
theorem dX7_execute_215 : decode cX7_execute 215 = .ok (.getfield 248, 3) := by decide +kernel
theorem dX7_execute_218 : decode cX7_execute 218 = .ok (.ireturn, 1) := by decide +kernel
theorem dX7_errorPosition_0 : decode cX7_errorPosition 0 = .ok (.aload_n 0, 1) := by decide +kernel
theorem dX7_errorPosition_1 : decode cX7_errorPosition 1 = .ok (.getfield 60, 3) := by decide +kernel
theorem dX7_errorPosition_4 : decode cX7_errorPosition 4 = .ok (.iconst (-1), 1) := by decide +kernel
theorem dX7_errorPosition_5 : decode cX7_errorPosition 5 = .ok (.if_icmp .ne 14, 3) := by decide +kernel
theorem dX7_errorPosition_8 : decode cX7_errorPosition 8 = .ok (.new 164, 3) := by decide +kernel
theorem dX7_errorPosition_11 : decode cX7_errorPosition 11 = .ok (.dup, 1) := by decide +kernel
theorem dX7_errorPosition_12 : decode cX7_errorPosition 12 = .ok (.ldc_w 268, 3) := by decide +kernel
theorem dX7_errorPosition_15 : decode cX7_errorPosition 15 = .ok (.invokespecial 168, 3) := by decide +kernel
theorem dX7_errorPosition_18 : decode cX7_errorPosition 18 = .ok (.athrow, 1) := by decide +kernel
theorem dX7_errorPosition_19 : decode cX7_errorPosition 19 = .ok (.aload_n 0, 1) := by decide +kernel
theorem dX7_errorPosition_20 : decode cX7_errorPosition 20 = .ok (.getfield 60, 3) := by decide +kernel
theorem dX7_errorPosition_23 : decode cX7_errorPosition 23 = .ok (.ireturn, 1) := by decide +kernel
theorem dX7_failedCommand_0 : decode cX7_failedCommand 0 = .ok (.aload_n 0, 1) := by decide +kernel
theorem dX7_failedCommand_1 : decode cX7_failedCommand 1 = .ok (.getfield 64, 3) := by decide +kernel
theorem dX7_failedCommand_4 : decode cX7_failedCommand 4 = .ok (.iconst (-1), 1) := by decide +kernel
theorem dX7_failedCommand_5 : decode cX7_failedCommand 5 = .ok (.if_icmp .ne 14, 3) := by decide +kernel
theorem dX7_failedCommand_8 : decode cX7_failedCommand 8 = .ok (.new 164, 3) := by decide +kernel
theorem dX7_failedCommand_11 : decode cX7_failedCommand 11 = .ok (.dup, 1) := by decide +kernel
theorem dX7_failedCommand_12 : decode cX7_failedCommand 12 = .ok (.ldc_w 270, 3) := by decide +kernel
theorem dX7_failedCommand_15 : decode cX7_failedCommand 15 = .ok (.invokespecial 168, 3) := by decide +kernel
theorem dX7_failedCommand_18 : decode cX7_failedCommand 18 = .ok (.athrow, 1) := by decide +kernel
theorem dX7_failedCommand_19 : decode cX7_failedCommand 19 = .ok (.aload_n 0, 1) := by decide +kernel
theorem dX7_failedCommand_20 : decode cX7_failedCommand 20 = .ok (.getfield 64, 3) := by decide +kernel
theorem dX7_failedCommand_23 : decode cX7_failedCommand 23 = .ok (.ireturn, 1) := by decide +kernel
theorem dX7_undo_0 : decode cX7_undo 0 = .ok (.aload_n 0, 1) := by decide +kernel
theorem dX7_undo_1 : decode cX7_undo 1 = .ok (.getfield 25, 3) := by decide +kernel
theorem dX7_undo_4 : decode cX7_undo 4 = .ok (.getfield 272, 3) := by decide +kernel
theorem dX7_undo_7 : decode cX7_undo 7 = .ok (.ifCond .ne 14, 3) := by decide +kernel
theorem dX7_undo_10 : decode cX7_undo 10 = .ok (.new 232, 3) := by decide +kernel
theorem dX7_undo_13 : decode cX7_undo 13 = .ok (.dup, 1) := by decide +kernel
theorem dX7_undo_14 : decode cX7_undo 14 = .ok (.ldc_w 273, 3) := by decide +kernel
theorem dX7_undo_17 : decode cX7_undo 17 = .ok (.invokespecial 236, 3) := by decide +kernel
theorem dX7_undo_20 : decode cX7_undo 20 = .ok (.athrow, 1) := by decide +kernel
theorem dX7_undo_21 : decode cX7_undo 21 = .ok (.aload_n 0, 1) := by decide +kernel
theorem dX7_undo_22 : decode cX7_undo 22 = .ok (.getfield 25, 3) := by decide +kernel
theorem dX7_undo_25 : decode cX7_undo 25 = .ok (.aload_n 0, 1) := by decide +kernel
theorem dX7_undo_26 : decode cX7_undo 26 = .ok (.getfield 10, 3) := by decide +kernel
theorem dX7_undo_29 : decode cX7_undo 29 = .ok (.invokevirtual 275, 3) := by decide +kernel
theorem dX7_undo_32 : decode cX7_undo 32 = .ok (.aload_n 0, 1) := by decide +kernel
theorem dX7_undo_33 : decode cX7_undo 33 = .ok (.getfield 25, 3) := by decide +kernel
theorem dX7_undo_36 : decode cX7_undo 36 = .ok (.getfield 272, 3) := by decide +kernel
theorem dX7_undo_39 : decode cX7_undo 39 = .ok (.ireturn, 1) := by decide +kernel
theorem dX7_save_0 : decode cX7_save 0 = .ok (.aload_n 0, 1) := by decide +kernel
theorem dX7_save_1 : decode cX7_save 1 = .ok (.getfield 19, 3) := by decide +kernel
theorem dX7_save_4 : decode cX7_save 4 = .ok (.aload_n 0, 1) := by decide +kernel
theorem dX7_save_5 : decode cX7_save 5 = .ok (.getfield 10, 3) := by decide +kernel
theorem dX7_save_8 : decode cX7_save 8 = .ok (.invokevirtual 245, 3) := by decide +kernel
theorem dX7_save_11 : decode cX7_save 11 = .ok (.aload_n 0, 1) := by decide +kernel
theorem dX7_save_12 : decode cX7_save 12 = .ok (.iconst 1, 1) := by decide +kernel
theorem dX7_save_13 : decode cX7_save 13 = .ok (.putfield 278, 3) := by decide +kernel
theorem dX7_save_16 : decode cX7_save 16 = .ok (.aload_n 0, 1) := by decide +kernel
theorem dX7_save_17 : decode cX7_save 17 = .ok (.getfield 10, 3) := by decide +kernel
theorem dX7_save_20 : decode cX7_save 20 = .ok (.getfield 107, 3) := by decide +kernel
theorem dX7_save_23 : decode cX7_save 23 = .ok (.ireturn, 1) := by decide +kernel
theorem dX7_restore_0 : decode cX7_restore 0 = .ok (.aload_n 0, 1) := by decide +kernel
theorem dX7_restore_1 : decode cX7_restore 1 = .ok (.getfield 278, 3) := by decide +kernel
theorem dX7_restore_4 : decode cX7_restore 4 = .ok (.ifCond .ne 14, 3) := by decide +kernel
theorem dX7_restore_7 : decode cX7_restore 7 = .ok (.new 232, 3) := by decide +kernel
theorem dX7_restore_10 : decode cX7_restore 10 = .ok (.dup, 1) := by decide +kernel
theorem dX7_restore_11 : decode cX7_restore 11 = .ok (.ldc_w 282, 3) := by decide +kernel
theorem dX7_restore_14 : decode cX7_restore 14 = .ok (.invokespecial 236, 3) := by decide +kernel
theorem dX7_restore_17 : decode cX7_restore 17 = .ok (.athrow, 1) := by decide +kernel
theorem dX7_restore_18 : decode cX7_restore 18 = .ok (.aload_n 0, 1) := by decide +kernel
theorem dX7_restore_19 : decode cX7_restore 19 = .ok (.getfield 10, 3) := by decide +kernel
theorem dX7_restore_22 : decode cX7_restore 22 = .ok (.aload_n 0, 1) := by decide +kernel
theorem dX7_restore_23 : decode cX7_restore 23 = .ok (.getfield 19, 3) := by decide +kernel
theorem dX7_restore_26 : decode cX7_restore 26 = .ok (.invokevirtual 245, 3) := by decide +kernel
theorem dX7_restore_29 : decode cX7_restore 29 = .ok (.aload_n 0, 1) := by decide +kernel
theorem dX7_restore_30 : decode cX7_restore 30 = .ok (.getfield 25, 3) := by decide +kernel
theorem dX7_restore_33 : decode cX7_restore 33 = .ok (.iconst 0, 1) := by decide +kernel
theorem dX7_restore_34 : decode cX7_restore 34 = .ok (.putfield 272, 3) := by decide +kernel
theorem dX7_restore_37 : decode cX7_restore 37 = .ok (.aload_n 0, 1) := by decide +kernel
theorem dX7_restore_38 : decode cX7_restore 38 = .ok (.getfield 10, 3) := by decide +kernel
theorem dX7_restore_41 : decode cX7_restore 41 = .ok (.getfield 107, 3) := by decide +kernel
theorem dX7_restore_44 : decode cX7_restore 44 = .ok (.ireturn, 1) := by decide +kernel
theorem dX7_modify_0 : decode cX7_modify 0 = .ok (.aload_n 0, 1) := by decide +kernel
theorem dX7_modify_1 : decode cX7_modify 1 = .ok (.iload_n 1, 1) := by decide +kernel
theorem dX7_modify_2 : decode cX7_modify 2 = .ok (.iload_n 2, 1) := by decide +kernel
theorem dX7_modify_3 : decode cX7_modify 3 = .ok (.iload_n 3, 1) := by decide +kernel
theorem dX7_modify_4 : decode cX7_modify 4 = .ok (.iload 4, 2) := by decide +kernel
theorem dX7_modify_6 : decode cX7_modify 6 = .ok (.iload 5, 2) := by decide +kernel
theorem dX7_modify_8 : decode cX7_modify 8 = .ok (.iload 6, 2) := by decide +kernel
theorem dX7_modify_10 : decode cX7_modify 10 = .ok (.invokevirtual 257, 3) := by decide +kernel
theorem dX7_modify_13 : decode cX7_modify 13 = .ok (.invokestatic 151, 3) := by decide +kernel
theorem dX7_modify_16 : decode cX7_modify 16 = .ok (.aload_n 0, 1) := by decide +kernel
theorem dX7_modify_17 : decode cX7_modify 17 = .ok (.getfield 25, 3) := by decide +kernel
theorem dX7_modify_20 : decode cX7_modify 20 = .ok (.aload_n 0, 1) := by decide +kernel
theorem dX7_modify_21 : decode cX7_modify 21 = .ok (.getfield 10, 3) := by decide +kernel
theorem dX7_modify_24 : decode cX7_modify 24 = .ok (.invokevirtual 265, 3) := by decide +kernel
theorem dX7_modify_27 : decode cX7_modify 27 = .ok (.aload_n 0, 1) := by decide +kernel
theorem dX7_modify_28 : decode cX7_modify 28 = .ok (.iload_n 1, 1) := by decide +kernel
theorem dX7_modify_29 : decode cX7_modify 29 = .ok (.iload_n 2, 1) := by decide +kernel
theorem dX7_modify_30 : decode cX7_modify 30 = .ok (.iload_n 3, 1) := by decide +kernel
theorem dX7_modify_31 : decode cX7_modify 31 = .ok (.iload 4, 2) := by decide +kernel
theorem dX7_modify_33 : decode cX7_modify 33 = .ok (.iload 5, 2) := by decide +kernel
theorem dX7_modify_35 : decode cX7_modify 35 = .ok (.iload 6, 2) := by decide +kernel
theorem dX7_modify_37 : decode cX7_modify 37 = .ok (.invokevirtual 262, 3) := by decide +kernel
theorem dX7_modify_40 : decode cX7_modify 40 = .ok (.ireturn, 1) := by decide +kernel
theorem dX7_faultOf_0 : decode cX7_faultOf 0 = .ok (.iload_n 1, 1) := by decide +kernel
theorem dX7_faultOf_1 : decode cX7_faultOf 1 = .ok (.tableswitch 122 0 7 #[47, 57, 66, 82, 122, 92, 102, 112], 47) := by decide +kernel
theorem dX7_faultOf_48 : decode cX7_faultOf 48 = .ok (.aload_n 0, 1) := by decide +kernel
theorem dX7_faultOf_49 : decode cX7_faultOf 49 = .ok (.getfield 10, 3) := by decide +kernel
theorem dX7_faultOf_52 : decode cX7_faultOf 52 = .ok (.iload_n 2, 1) := by decide +kernel
theorem dX7_faultOf_53 : decode cX7_faultOf 53 = .ok (.iload_n 3, 1) := by decide +kernel
theorem dX7_faultOf_54 : decode cX7_faultOf 54 = .ok (.invokevirtual 284, 3) := by decide +kernel
theorem dX7_faultOf_57 : decode cX7_faultOf 57 = .ok (.ireturn, 1) := by decide +kernel
theorem dX7_faultOf_58 : decode cX7_faultOf 58 = .ok (.aload_n 0, 1) := by decide +kernel
theorem dX7_faultOf_59 : decode cX7_faultOf 59 = .ok (.getfield 10, 3) := by decide +kernel
theorem dX7_faultOf_62 : decode cX7_faultOf 62 = .ok (.iload_n 2, 1) := by decide +kernel
theorem dX7_faultOf_63 : decode cX7_faultOf 63 = .ok (.invokevirtual 287, 3) := by decide +kernel
theorem dX7_faultOf_66 : decode cX7_faultOf 66 = .ok (.ireturn, 1) := by decide +kernel
theorem dX7_faultOf_67 : decode cX7_faultOf 67 = .ok (.aload_n 0, 1) := by decide +kernel
theorem dX7_faultOf_68 : decode cX7_faultOf 68 = .ok (.getfield 10, 3) := by decide +kernel
theorem dX7_faultOf_71 : decode cX7_faultOf 71 = .ok (.iload_n 2, 1) := by decide +kernel
theorem dX7_faultOf_72 : decode cX7_faultOf 72 = .ok (.iload_n 3, 1) := by decide +kernel
theorem dX7_faultOf_73 : decode cX7_faultOf 73 = .ok (.iload 4, 2) := by decide +kernel
theorem dX7_faultOf_75 : decode cX7_faultOf 75 = .ok (.iload 5, 2) := by decide +kernel
theorem dX7_faultOf_77 : decode cX7_faultOf 77 = .ok (.iload 6, 2) := by decide +kernel
theorem dX7_faultOf_79 : decode cX7_faultOf 79 = .ok (.invokevirtual 290, 3) := by decide +kernel
theorem dX7_faultOf_82 : decode cX7_faultOf 82 = .ok (.ireturn, 1) := by decide +kernel
theorem dX7_faultOf_83 : decode cX7_faultOf 83 = .ok (.aload_n 0, 1) := by decide +kernel
theorem dX7_faultOf_84 : decode cX7_faultOf 84 = .ok (.getfield 10, 3) := by decide +kernel
theorem dX7_faultOf_87 : decode cX7_faultOf 87 = .ok (.iload_n 2, 1) := by decide +kernel
theorem dX7_faultOf_88 : decode cX7_faultOf 88 = .ok (.iload_n 3, 1) := by decide +kernel
theorem dX7_faultOf_89 : decode cX7_faultOf 89 = .ok (.invokevirtual 294, 3) := by decide +kernel
theorem dX7_faultOf_92 : decode cX7_faultOf 92 = .ok (.ireturn, 1) := by decide +kernel
theorem dX7_faultOf_93 : decode cX7_faultOf 93 = .ok (.aload_n 0, 1) := by decide +kernel
theorem dX7_faultOf_94 : decode cX7_faultOf 94 = .ok (.getfield 10, 3) := by decide +kernel
theorem dX7_faultOf_97 : decode cX7_faultOf 97 = .ok (.iload_n 2, 1) := by decide +kernel
theorem dX7_faultOf_98 : decode cX7_faultOf 98 = .ok (.iload_n 3, 1) := by decide +kernel
theorem dX7_faultOf_99 : decode cX7_faultOf 99 = .ok (.invokevirtual 297, 3) := by decide +kernel
theorem dX7_faultOf_102 : decode cX7_faultOf 102 = .ok (.ireturn, 1) := by decide +kernel
theorem dX7_faultOf_103 : decode cX7_faultOf 103 = .ok (.aload_n 0, 1) := by decide +kernel
theorem dX7_faultOf_104 : decode cX7_faultOf 104 = .ok (.getfield 10, 3) := by decide +kernel
theorem dX7_faultOf_107 : decode cX7_faultOf 107 = .ok (.iload_n 2, 1) := by decide +kernel
theorem dX7_faultOf_108 : decode cX7_faultOf 108 = .ok (.iload_n 3, 1) := by decide +kernel
theorem dX7_faultOf_109 : decode cX7_faultOf 109 = .ok (.invokevirtual 300, 3) := by decide +kernel
theorem dX7_faultOf_112 : decode cX7_faultOf 112 = .ok (.ireturn, 1) := by decide +kernel
theorem dX7_faultOf_113 : decode cX7_faultOf 113 = .ok (.aload_n 0, 1) := by decide +kernel
theorem dX7_faultOf_114 : decode cX7_faultOf 114 = .ok (.getfield 10, 3) := by decide +kernel
theorem dX7_faultOf_117 : decode cX7_faultOf 117 = .ok (.iload_n 2, 1) := by decide +kernel
theorem dX7_faultOf_118 : decode cX7_faultOf 118 = .ok (.iload_n 3, 1) := by decide +kernel
theorem dX7_faultOf_119 : decode cX7_faultOf 119 = .ok (.invokevirtual 300, 3) := by decide +kernel
theorem dX7_faultOf_122 : decode cX7_faultOf 122 = .ok (.ireturn, 1) := by decide +kernel
theorem dX7_faultOf_123 : decode cX7_faultOf 123 = .ok (.iconst 0, 1) := by decide +kernel
theorem dX7_faultOf_124 : decode cX7_faultOf 124 = .ok (.ireturn, 1) := by decide +kernel
theorem dX7_perform_0 : decode cX7_perform 0 = .ok (.iload_n 1, 1) := by decide +kernel
theorem dX7_perform_1 : decode cX7_perform 1 = .ok (.tableswitch 127 0 7 #[47, 57, 66, 82, 92, 97, 107, 117], 47) := by decide +kernel
theorem dX7_perform_48 : decode cX7_perform 48 = .ok (.aload_n 0, 1) := by decide +kernel
theorem dX7_perform_49 : decode cX7_perform 49 = .ok (.getfield 10, 3) := by decide +kernel
theorem dX7_perform_52 : decode cX7_perform 52 = .ok (.iload_n 2, 1) := by decide +kernel
theorem dX7_perform_53 : decode cX7_perform 53 = .ok (.iload_n 3, 1) := by decide +kernel
theorem dX7_perform_54 : decode cX7_perform 54 = .ok (.invokevirtual 305, 3) := by decide +kernel
theorem dX7_perform_57 : decode cX7_perform 57 = .ok (.ireturn, 1) := by decide +kernel
theorem dX7_perform_58 : decode cX7_perform 58 = .ok (.aload_n 0, 1) := by decide +kernel
theorem dX7_perform_59 : decode cX7_perform 59 = .ok (.getfield 10, 3) := by decide +kernel
theorem dX7_perform_62 : decode cX7_perform 62 = .ok (.iload_n 2, 1) := by decide +kernel
theorem dX7_perform_63 : decode cX7_perform 63 = .ok (.invokevirtual 308, 3) := by decide +kernel
theorem dX7_perform_66 : decode cX7_perform 66 = .ok (.ireturn, 1) := by decide +kernel
theorem dX7_perform_67 : decode cX7_perform 67 = .ok (.aload_n 0, 1) := by decide +kernel
theorem dX7_perform_68 : decode cX7_perform 68 = .ok (.getfield 10, 3) := by decide +kernel
theorem dX7_perform_71 : decode cX7_perform 71 = .ok (.iload_n 2, 1) := by decide +kernel
theorem dX7_perform_72 : decode cX7_perform 72 = .ok (.iload_n 3, 1) := by decide +kernel
theorem dX7_perform_73 : decode cX7_perform 73 = .ok (.iload 4, 2) := by decide +kernel
theorem dX7_perform_75 : decode cX7_perform 75 = .ok (.iload 5, 2) := by decide +kernel
theorem dX7_perform_77 : decode cX7_perform 77 = .ok (.iload 6, 2) := by decide +kernel
theorem dX7_perform_79 : decode cX7_perform 79 = .ok (.invokevirtual 311, 3) := by decide +kernel
theorem dX7_perform_82 : decode cX7_perform 82 = .ok (.ireturn, 1) := by decide +kernel
theorem dX7_perform_83 : decode cX7_perform 83 = .ok (.aload_n 0, 1) := by decide +kernel
theorem dX7_perform_84 : decode cX7_perform 84 = .ok (.getfield 10, 3) := by decide +kernel
theorem dX7_perform_87 : decode cX7_perform 87 = .ok (.iload_n 2, 1) := by decide +kernel
theorem dX7_perform_88 : decode cX7_perform 88 = .ok (.iload_n 3, 1) := by decide +kernel
theorem dX7_perform_89 : decode cX7_perform 89 = .ok (.invokevirtual 314, 3) := by decide +kernel
theorem dX7_perform_92 : decode cX7_perform 92 = .ok (.ireturn, 1) := by decide +kernel
theorem dX7_perform_93 : decode cX7_perform 93 = .ok (.aload_n 0, 1) := by decide +kernel
theorem dX7_perform_94 : decode cX7_perform 94 = .ok (.invokevirtual 317, 3) := by decide +kernel
theorem dX7_perform_97 : decode cX7_perform 97 = .ok (.ireturn, 1) := by decide +kernel
theorem dX7_perform_98 : decode cX7_perform 98 = .ok (.aload_n 0, 1) := by decide +kernel
theorem dX7_perform_99 : decode cX7_perform 99 = .ok (.getfield 10, 3) := by decide +kernel
theorem dX7_perform_102 : decode cX7_perform 102 = .ok (.iload_n 2, 1) := by decide +kernel
theorem dX7_perform_103 : decode cX7_perform 103 = .ok (.iload_n 3, 1) := by decide +kernel
theorem dX7_perform_104 : decode cX7_perform 104 = .ok (.invokevirtual 320, 3) := by decide +kernel
theorem dX7_perform_107 : decode cX7_perform 107 = .ok (.ireturn, 1) := by decide +kernel
theorem dX7_perform_108 : decode cX7_perform 108 = .ok (.aload_n 0, 1) := by decide +kernel
theorem dX7_perform_109 : decode cX7_perform 109 = .ok (.getfield 10, 3) := by decide +kernel
theorem dX7_perform_112 : decode cX7_perform 112 = .ok (.iload_n 2, 1) := by decide +kernel
theorem dX7_perform_113 : decode cX7_perform 113 = .ok (.iload_n 3, 1) := by decide +kernel
theorem dX7_perform_114 : decode cX7_perform 114 = .ok (.invokevirtual 323, 3) := by decide +kernel
theorem dX7_perform_117 : decode cX7_perform 117 = .ok (.ireturn, 1) := by decide +kernel
theorem dX7_perform_118 : decode cX7_perform 118 = .ok (.aload_n 0, 1) := by decide +kernel
theorem dX7_perform_119 : decode cX7_perform 119 = .ok (.getfield 10, 3) := by decide +kernel
theorem dX7_perform_122 : decode cX7_perform 122 = .ok (.iload_n 2, 1) := by decide +kernel
theorem dX7_perform_123 : decode cX7_perform 123 = .ok (.iload_n 3, 1) := by decide +kernel
theorem dX7_perform_124 : decode cX7_perform 124 = .ok (.invokevirtual 326, 3) := by decide +kernel
theorem dX7_perform_127 : decode cX7_perform 127 = .ok (.ireturn, 1) := by decide +kernel
theorem dX7_perform_128 : decode cX7_perform 128 = .ok (.iconst 0, 1) := by decide +kernel
theorem dX7_perform_129 : decode cX7_perform 129 = .ok (.ireturn, 1) := by decide +kernel
theorem dX7_passNight_0 : decode cX7_passNight 0 = .ok (.aload_n 0, 1) := by decide +kernel
theorem dX7_passNight_1 : decode cX7_passNight 1 = .ok (.getfield 10, 3) := by decide +kernel
theorem dX7_passNight_4 : decode cX7_passNight 4 = .ok (.invokevirtual 329, 3) := by decide +kernel
theorem dX7_passNight_7 : decode cX7_passNight 7 = .ok (.aload_n 0, 1) := by decide +kernel
theorem dX7_passNight_8 : decode cX7_passNight 8 = .ok (.getfield 10, 3) := by decide +kernel
theorem dX7_passNight_11 : decode cX7_passNight 11 = .ok (.invokevirtual 332, 3) := by decide +kernel
theorem dX7_passNight_14 : decode cX7_passNight 14 = .ok (.aload_n 0, 1) := by decide +kernel
theorem dX7_passNight_15 : decode cX7_passNight 15 = .ok (.getfield 10, 3) := by decide +kernel
theorem dX7_passNight_18 : decode cX7_passNight 18 = .ok (.invokevirtual 335, 3) := by decide +kernel
theorem dX7_passNight_21 : decode cX7_passNight 21 = .ok (.istore_n 1, 1) := by decide +kernel
theorem dX7_passNight_22 : decode cX7_passNight 22 = .ok (.iconst 0, 1) := by decide +kernel
theorem dX7_passNight_23 : decode cX7_passNight 23 = .ok (.istore_n 2, 1) := by decide +kernel
theorem dX7_passNight_24 : decode cX7_passNight 24 = .ok (.iload_n 2, 1) := by decide +kernel
theorem dX7_passNight_25 : decode cX7_passNight 25 = .ok (.aload_n 0, 1) := by decide +kernel
theorem dX7_passNight_26 : decode cX7_passNight 26 = .ok (.getfield 10, 3) := by decide +kernel
theorem dX7_passNight_29 : decode cX7_passNight 29 = .ok (.getfield 90, 3) := by decide +kernel
theorem dX7_passNight_32 : decode cX7_passNight 32 = .ok (.if_icmp .ge 22, 3) := by decide +kernel
theorem dX7_passNight_35 : decode cX7_passNight 35 = .ok (.iload_n 1, 1) := by decide +kernel
theorem dX7_passNight_36 : decode cX7_passNight 36 = .ok (.iload_n 2, 1) := by decide +kernel
theorem dX7_passNight_37 : decode cX7_passNight 37 = .ok (.ishr, 1) := by decide +kernel
theorem dX7_passNight_38 : decode cX7_passNight 38 = .ok (.iconst 1, 1) := by decide +kernel
theorem dX7_passNight_39 : decode cX7_passNight 39 = .ok (.iand, 1) := by decide +kernel
theorem dX7_passNight_40 : decode cX7_passNight 40 = .ok (.ifCond .eq 8, 3) := by decide +kernel
theorem dX7_passNight_43 : decode cX7_passNight 43 = .ok (.aload_n 0, 1) := by decide +kernel
theorem dX7_passNight_44 : decode cX7_passNight 44 = .ok (.iload_n 2, 1) := by decide +kernel
theorem dX7_passNight_45 : decode cX7_passNight 45 = .ok (.invokevirtual 338, 3) := by decide +kernel
theorem dX7_passNight_48 : decode cX7_passNight 48 = .ok (.iinc 2 1, 3) := by decide +kernel
theorem dX7_passNight_51 : decode cX7_passNight 51 = .ok (.goto (-27), 3) := by decide +kernel
theorem dX7_passNight_54 : decode cX7_passNight 54 = .ok (.iload_n 1, 1) := by decide +kernel
theorem dX7_passNight_55 : decode cX7_passNight 55 = .ok (.invokestatic 341, 3) := by decide +kernel
theorem dX7_passNight_58 : decode cX7_passNight 58 = .ok (.ireturn, 1) := by decide +kernel
theorem dX7_carryOutDefault_0 : decode cX7_carryOutDefault 0 = .ok (.aload_n 0, 1) := by decide +kernel
theorem dX7_carryOutDefault_1 : decode cX7_carryOutDefault 1 = .ok (.getfield 39, 3) := by decide +kernel
theorem dX7_carryOutDefault_4 : decode cX7_carryOutDefault 4 = .ok (.aload_n 0, 1) := by decide +kernel
theorem dX7_carryOutDefault_5 : decode cX7_carryOutDefault 5 = .ok (.getfield 10, 3) := by decide +kernel
theorem dX7_carryOutDefault_8 : decode cX7_carryOutDefault 8 = .ok (.iload_n 1, 1) := by decide +kernel
theorem dX7_carryOutDefault_9 : decode cX7_carryOutDefault 9 = .ok (.invokevirtual 346, 3) := by decide +kernel
theorem dX7_carryOutDefault_12 : decode cX7_carryOutDefault 12 = .ok (.aload_n 0, 1) := by decide +kernel
theorem dX7_carryOutDefault_13 : decode cX7_carryOutDefault 13 = .ok (.getfield 39, 3) := by decide +kernel
theorem dX7_carryOutDefault_16 : decode cX7_carryOutDefault 16 = .ok (.invokevirtual 350, 3) := by decide +kernel
theorem dX7_carryOutDefault_19 : decode cX7_carryOutDefault 19 = .ok (.ifCond .eq 58, 3) := by decide +kernel
theorem dX7_carryOutDefault_22 : decode cX7_carryOutDefault 22 = .ok (.aload_n 0, 1) := by decide +kernel
theorem dX7_carryOutDefault_23 : decode cX7_carryOutDefault 23 = .ok (.getfield 39, 3) := by decide +kernel
theorem dX7_carryOutDefault_26 : decode cX7_carryOutDefault 26 = .ok (.aload_n 0, 1) := by decide +kernel
theorem dX7_carryOutDefault_27 : decode cX7_carryOutDefault 27 = .ok (.getfield 10, 3) := by decide +kernel
theorem dX7_carryOutDefault_30 : decode cX7_carryOutDefault 30 = .ok (.invokevirtual 155, 3) := by decide +kernel
theorem dX7_carryOutDefault_33 : decode cX7_carryOutDefault 33 = .ok (.pop, 1) := by decide +kernel
theorem dX7_carryOutDefault_34 : decode cX7_carryOutDefault 34 = .ok (.iconst 0, 1) := by decide +kernel
theorem dX7_carryOutDefault_35 : decode cX7_carryOutDefault 35 = .ok (.istore_n 2, 1) := by decide +kernel
theorem dX7_carryOutDefault_36 : decode cX7_carryOutDefault 36 = .ok (.iload_n 2, 1) := by decide +kernel
theorem dX7_carryOutDefault_37 : decode cX7_carryOutDefault 37 = .ok (.aload_n 0, 1) := by decide +kernel
theorem dX7_carryOutDefault_38 : decode cX7_carryOutDefault 38 = .ok (.getfield 10, 3) := by decide +kernel
theorem dX7_carryOutDefault_41 : decode cX7_carryOutDefault 41 = .ok (.getfield 73, 3) := by decide +kernel
theorem dX7_carryOutDefault_44 : decode cX7_carryOutDefault 44 = .ok (.if_icmp .ge 33, 3) := by decide +kernel
theorem dX7_carryOutDefault_47 : decode cX7_carryOutDefault 47 = .ok (.aload_n 0, 1) := by decide +kernel
theorem dX7_carryOutDefault_48 : decode cX7_carryOutDefault 48 = .ok (.getfield 39, 3) := by decide +kernel
theorem dX7_carryOutDefault_51 : decode cX7_carryOutDefault 51 = .ok (.iload_n 2, 1) := by decide +kernel
theorem dX7_carryOutDefault_52 : decode cX7_carryOutDefault 52 = .ok (.invokevirtual 161, 3) := by decide +kernel
theorem dX7_carryOutDefault_55 : decode cX7_carryOutDefault 55 = .ok (.istore_n 3, 1) := by decide +kernel
theorem dX7_carryOutDefault_56 : decode cX7_carryOutDefault 56 = .ok (.iload_n 3, 1) := by decide +kernel
theorem dX7_carryOutDefault_57 : decode cX7_carryOutDefault 57 = .ok (.iconst (-1), 1) := by decide +kernel
theorem dX7_carryOutDefault_58 : decode cX7_carryOutDefault 58 = .ok (.if_icmp .eq 13, 3) := by decide +kernel
theorem dX7_carryOutDefault_61 : decode cX7_carryOutDefault 61 = .ok (.aload_n 0, 1) := by decide +kernel
theorem dX7_carryOutDefault_62 : decode cX7_carryOutDefault 62 = .ok (.getfield 10, 3) := by decide +kernel
theorem dX7_carryOutDefault_65 : decode cX7_carryOutDefault 65 = .ok (.iload_n 1, 1) := by decide +kernel
theorem dX7_carryOutDefault_66 : decode cX7_carryOutDefault 66 = .ok (.iload_n 3, 1) := by decide +kernel
theorem dX7_carryOutDefault_67 : decode cX7_carryOutDefault 67 = .ok (.iload_n 2, 1) := by decide +kernel
theorem dX7_carryOutDefault_68 : decode cX7_carryOutDefault 68 = .ok (.invokevirtual 353, 3) := by decide +kernel
theorem dX7_carryOutDefault_71 : decode cX7_carryOutDefault 71 = .ok (.iinc 2 1, 3) := by decide +kernel
theorem dX7_carryOutDefault_74 : decode cX7_carryOutDefault 74 = .ok (.goto (-38), 3) := by decide +kernel
theorem dX7_carryOutDefault_77 : decode cX7_carryOutDefault 77 = .ok (.aload_n 0, 1) := by decide +kernel
theorem dX7_carryOutDefault_78 : decode cX7_carryOutDefault 78 = .ok (.getfield 10, 3) := by decide +kernel
theorem dX7_carryOutDefault_81 : decode cX7_carryOutDefault 81 = .ok (.iload_n 1, 1) := by decide +kernel
theorem dX7_carryOutDefault_82 : decode cX7_carryOutDefault 82 = .ok (.invokevirtual 357, 3) := by decide +kernel
theorem dX7_carryOutDefault_85 : decode cX7_carryOutDefault 85 = .ok (.aload_n 0, 1) := by decide +kernel
theorem dX7_carryOutDefault_86 : decode cX7_carryOutDefault 86 = .ok (.getfield 10, 3) := by decide +kernel
theorem dX7_carryOutDefault_89 : decode cX7_carryOutDefault 89 = .ok (.iload_n 1, 1) := by decide +kernel
theorem dX7_carryOutDefault_90 : decode cX7_carryOutDefault 90 = .ok (.invokevirtual 360, 3) := by decide +kernel
theorem dX7_carryOutDefault_93 : decode cX7_carryOutDefault 93 = .ok (.return_, 1) := by decide +kernel
theorem dX7_prepareTakeOver_0 : decode cX7_prepareTakeOver 0 = .ok (.iload_n 1, 1) := by decide +kernel
theorem dX7_prepareTakeOver_1 : decode cX7_prepareTakeOver 1 = .ok (.aload_n 0, 1) := by decide +kernel
theorem dX7_prepareTakeOver_2 : decode cX7_prepareTakeOver 2 = .ok (.getfield 10, 3) := by decide +kernel
theorem dX7_prepareTakeOver_5 : decode cX7_prepareTakeOver 5 = .ok (.getfield 90, 3) := by decide +kernel
theorem dX7_prepareTakeOver_8 : decode cX7_prepareTakeOver 8 = .ok (.invokestatic 363, 3) := by decide +kernel
theorem dX7_prepareTakeOver_11 : decode cX7_prepareTakeOver 11 = .ok (.ifCond .ne 5, 3) := by decide +kernel
theorem dX7_prepareTakeOver_14 : decode cX7_prepareTakeOver 14 = .ok (.iconst 1, 1) := by decide +kernel
theorem dX7_prepareTakeOver_15 : decode cX7_prepareTakeOver 15 = .ok (.ireturn, 1) := by decide +kernel
theorem dX7_prepareTakeOver_16 : decode cX7_prepareTakeOver 16 = .ok (.aload_n 0, 1) := by decide +kernel
theorem dX7_prepareTakeOver_17 : decode cX7_prepareTakeOver 17 = .ok (.getfield 10, 3) := by decide +kernel
theorem dX7_prepareTakeOver_20 : decode cX7_prepareTakeOver 20 = .ok (.getfield 96, 3) := by decide +kernel
theorem dX7_prepareTakeOver_23 : decode cX7_prepareTakeOver 23 = .ok (.iload_n 1, 1) := by decide +kernel
theorem dX7_prepareTakeOver_24 : decode cX7_prepareTakeOver 24 = .ok (.iaload, 1) := by decide +kernel
theorem dX7_prepareTakeOver_25 : decode cX7_prepareTakeOver 25 = .ok (.iconst 2, 1) := by decide +kernel
theorem dX7_prepareTakeOver_26 : decode cX7_prepareTakeOver 26 = .ok (.if_icmp .ne 5, 3) := by decide +kernel
theorem dX7_prepareTakeOver_29 : decode cX7_prepareTakeOver 29 = .ok (.iconst 3, 1) := by decide +kernel
theorem dX7_prepareTakeOver_30 : decode cX7_prepareTakeOver 30 = .ok (.ireturn, 1) := by decide +kernel
theorem dX7_prepareTakeOver_31 : decode cX7_prepareTakeOver 31 = .ok (.aload_n 0, 1) := by decide +kernel
theorem dX7_prepareTakeOver_32 : decode cX7_prepareTakeOver 32 = .ok (.getfield 39, 3) := by decide +kernel
theorem dX7_prepareTakeOver_35 : decode cX7_prepareTakeOver 35 = .ok (.aload_n 0, 1) := by decide +kernel
theorem dX7_prepareTakeOver_36 : decode cX7_prepareTakeOver 36 = .ok (.getfield 10, 3) := by decide +kernel
theorem dX7_prepareTakeOver_39 : decode cX7_prepareTakeOver 39 = .ok (.iload_n 1, 1) := by decide +kernel
theorem dX7_prepareTakeOver_40 : decode cX7_prepareTakeOver 40 = .ok (.invokevirtual 346, 3) := by decide +kernel
theorem dX7_prepareTakeOver_43 : decode cX7_prepareTakeOver 43 = .ok (.aload_n 0, 1) := by decide +kernel
theorem dX7_prepareTakeOver_44 : decode cX7_prepareTakeOver 44 = .ok (.getfield 39, 3) := by decide +kernel
theorem dX7_prepareTakeOver_47 : decode cX7_prepareTakeOver 47 = .ok (.invokevirtual 350, 3) := by decide +kernel
theorem dX7_prepareTakeOver_50 : decode cX7_prepareTakeOver 50 = .ok (.ifCond .eq 7, 3) := by decide +kernel
theorem dX7_prepareTakeOver_53 : decode cX7_prepareTakeOver 53 = .ok (.iconst 0, 1) := by decide +kernel
theorem dX7_prepareTakeOver_54 : decode cX7_prepareTakeOver 54 = .ok (.goto 4, 3) := by decide +kernel
theorem dX7_prepareTakeOver_57 : decode cX7_prepareTakeOver 57 = .ok (.iconst 4, 1) := by decide +kernel
theorem dX7_prepareTakeOver_58 : decode cX7_prepareTakeOver 58 = .ok (.ireturn, 1) := by decide +kernel
theorem dX7_marginsAgree_0 : decode cX7_marginsAgree 0 = .ok (.iconst 0, 1) := by decide +kernel
theorem dX7_marginsAgree_1 : decode cX7_marginsAgree 1 = .ok (.istore_n 1, 1) := by decide +kernel
theorem dX7_marginsAgree_2 : decode cX7_marginsAgree 2 = .ok (.iload_n 1, 1) := by decide +kernel
theorem dX7_marginsAgree_3 : decode cX7_marginsAgree 3 = .ok (.aload_n 0, 1) := by decide +kernel
theorem dX7_marginsAgree_4 : decode cX7_marginsAgree 4 = .ok (.getfield 10, 3) := by decide +kernel
theorem dX7_marginsAgree_7 : decode cX7_marginsAgree 7 = .ok (.getfield 90, 3) := by decide +kernel
theorem dX7_marginsAgree_10 : decode cX7_marginsAgree 10 = .ok (.if_icmp .ge 30, 3) := by decide +kernel
theorem dX7_marginsAgree_13 : decode cX7_marginsAgree 13 = .ok (.aload_n 0, 1) := by decide +kernel
theorem dX7_marginsAgree_14 : decode cX7_marginsAgree 14 = .ok (.getfield 10, 3) := by decide +kernel
theorem dX7_marginsAgree_17 : decode cX7_marginsAgree 17 = .ok (.iload_n 1, 1) := by decide +kernel
theorem dX7_marginsAgree_18 : decode cX7_marginsAgree 18 = .ok (.invokevirtual 128, 3) := by decide +kernel
theorem dX7_marginsAgree_21 : decode cX7_marginsAgree 21 = .ok (.aload_n 0, 1) := by decide +kernel
theorem dX7_marginsAgree_22 : decode cX7_marginsAgree 22 = .ok (.getfield 10, 3) := by decide +kernel
theorem dX7_marginsAgree_25 : decode cX7_marginsAgree 25 = .ok (.iload_n 1, 1) := by decide +kernel
theorem dX7_marginsAgree_26 : decode cX7_marginsAgree 26 = .ok (.invokevirtual 131, 3) := by decide +kernel
theorem dX7_marginsAgree_29 : decode cX7_marginsAgree 29 = .ok (.if_icmp .eq 5, 3) := by decide +kernel
theorem dX7_marginsAgree_32 : decode cX7_marginsAgree 32 = .ok (.iconst 0, 1) := by decide +kernel
theorem dX7_marginsAgree_33 : decode cX7_marginsAgree 33 = .ok (.ireturn, 1) := by decide +kernel
theorem dX7_marginsAgree_34 : decode cX7_marginsAgree 34 = .ok (.iinc 1 1, 3) := by decide +kernel
theorem dX7_marginsAgree_37 : decode cX7_marginsAgree 37 = .ok (.goto (-35), 3) := by decide +kernel
theorem dX7_marginsAgree_40 : decode cX7_marginsAgree 40 = .ok (.iconst 1, 1) := by decide +kernel
theorem dX7_marginsAgree_41 : decode cX7_marginsAgree 41 = .ok (.ireturn, 1) := by decide +kernel
theorem dX7_paymentsAgree_0 : decode cX7_paymentsAgree 0 = .ok (.aload_n 0, 1) := by decide +kernel
theorem dX7_paymentsAgree_1 : decode cX7_paymentsAgree 1 = .ok (.getfield 32, 3) := by decide +kernel
theorem dX7_paymentsAgree_4 : decode cX7_paymentsAgree 4 = .ok (.aload_n 0, 1) := by decide +kernel
theorem dX7_paymentsAgree_5 : decode cX7_paymentsAgree 5 = .ok (.getfield 10, 3) := by decide +kernel
theorem dX7_paymentsAgree_8 : decode cX7_paymentsAgree 8 = .ok (.invokevirtual 137, 3) := by decide +kernel
theorem dX7_paymentsAgree_11 : decode cX7_paymentsAgree 11 = .ok (.aload_n 0, 1) := by decide +kernel
theorem dX7_paymentsAgree_12 : decode cX7_paymentsAgree 12 = .ok (.getfield 32, 3) := by decide +kernel
theorem dX7_paymentsAgree_15 : decode cX7_paymentsAgree 15 = .ok (.invokevirtual 141, 3) := by decide +kernel
theorem dX7_paymentsAgree_18 : decode cX7_paymentsAgree 18 = .ok (.aload_n 0, 1) := by decide +kernel
theorem dX7_paymentsAgree_19 : decode cX7_paymentsAgree 19 = .ok (.getfield 32, 3) := by decide +kernel
theorem dX7_paymentsAgree_22 : decode cX7_paymentsAgree 22 = .ok (.invokevirtual 145, 3) := by decide +kernel
theorem dX7_paymentsAgree_25 : decode cX7_paymentsAgree 25 = .ok (.if_icmp .ne 7, 3) := by decide +kernel
theorem dX7_paymentsAgree_28 : decode cX7_paymentsAgree 28 = .ok (.iconst 1, 1) := by decide +kernel
theorem dX7_paymentsAgree_29 : decode cX7_paymentsAgree 29 = .ok (.goto 4, 3) := by decide +kernel
theorem dX7_paymentsAgree_32 : decode cX7_paymentsAgree 32 = .ok (.iconst 0, 1) := by decide +kernel
theorem dX7_paymentsAgree_33 : decode cX7_paymentsAgree 33 = .ok (.ireturn, 1) := by decide +kernel
theorem dX7_leastMarginsAgree_0 : decode cX7_leastMarginsAgree 0 = .ok (.iconst 0, 1) := by decide +kernel
theorem dX7_leastMarginsAgree_1 : decode cX7_leastMarginsAgree 1 = .ok (.istore_n 1, 1) := by decide +kernel
theorem dX7_leastMarginsAgree_2 : decode cX7_leastMarginsAgree 2 = .ok (.iload_n 1, 1) := by decide +kernel
theorem dX7_leastMarginsAgree_3 : decode cX7_leastMarginsAgree 3 = .ok (.aload_n 0, 1) := by decide +kernel
theorem dX7_leastMarginsAgree_4 : decode cX7_leastMarginsAgree 4 = .ok (.getfield 10, 3) := by decide +kernel
theorem dX7_leastMarginsAgree_7 : decode cX7_leastMarginsAgree 7 = .ok (.getfield 90, 3) := by decide +kernel
theorem dX7_leastMarginsAgree_10 : decode cX7_leastMarginsAgree 10 = .ok (.if_icmp .ge 44, 3) := by decide +kernel
theorem dX7_leastMarginsAgree_13 : decode cX7_leastMarginsAgree 13 = .ok (.aload_n 0, 1) := by decide +kernel
theorem dX7_leastMarginsAgree_14 : decode cX7_leastMarginsAgree 14 = .ok (.iload_n 1, 1) := by decide +kernel
theorem dX7_leastMarginsAgree_15 : decode cX7_leastMarginsAgree 15 = .ok (.invokevirtual 148, 3) := by decide +kernel
theorem dX7_leastMarginsAgree_18 : decode cX7_leastMarginsAgree 18 = .ok (.ifCond .ne 30, 3) := by decide +kernel
theorem dX7_leastMarginsAgree_21 : decode cX7_leastMarginsAgree 21 = .ok (.aload_n 0, 1) := by decide +kernel
theorem dX7_leastMarginsAgree_22 : decode cX7_leastMarginsAgree 22 = .ok (.getfield 39, 3) := by decide +kernel
theorem dX7_leastMarginsAgree_25 : decode cX7_leastMarginsAgree 25 = .ok (.aload_n 0, 1) := by decide +kernel
theorem dX7_leastMarginsAgree_26 : decode cX7_leastMarginsAgree 26 = .ok (.getfield 10, 3) := by decide +kernel
theorem dX7_leastMarginsAgree_29 : decode cX7_leastMarginsAgree 29 = .ok (.invokevirtual 155, 3) := by decide +kernel
theorem dX7_leastMarginsAgree_32 : decode cX7_leastMarginsAgree 32 = .ok (.aload_n 0, 1) := by decide +kernel
theorem dX7_leastMarginsAgree_33 : decode cX7_leastMarginsAgree 33 = .ok (.getfield 39, 3) := by decide +kernel
theorem dX7_leastMarginsAgree_36 : decode cX7_leastMarginsAgree 36 = .ok (.aload_n 0, 1) := by decide +kernel
theorem dX7_leastMarginsAgree_37 : decode cX7_leastMarginsAgree 37 = .ok (.getfield 10, 3) := by decide +kernel
theorem dX7_leastMarginsAgree_40 : decode cX7_leastMarginsAgree 40 = .ok (.invokevirtual 159, 3) := by decide +kernel
theorem dX7_leastMarginsAgree_43 : decode cX7_leastMarginsAgree 43 = .ok (.if_icmp .eq 5, 3) := by decide +kernel
theorem dX7_leastMarginsAgree_46 : decode cX7_leastMarginsAgree 46 = .ok (.iconst 0, 1) := by decide +kernel
theorem dX7_leastMarginsAgree_47 : decode cX7_leastMarginsAgree 47 = .ok (.ireturn, 1) := by decide +kernel
theorem dX7_leastMarginsAgree_48 : decode cX7_leastMarginsAgree 48 = .ok (.iinc 1 1, 3) := by decide +kernel
theorem dX7_leastMarginsAgree_51 : decode cX7_leastMarginsAgree 51 = .ok (.goto (-49), 3) := by decide +kernel
theorem dX7_leastMarginsAgree_54 : decode cX7_leastMarginsAgree 54 = .ok (.iconst 1, 1) := by decide +kernel
theorem dX7_leastMarginsAgree_55 : decode cX7_leastMarginsAgree 55 = .ok (.ireturn, 1) := by decide +kernel
theorem dX7_isNumber_0 : decode cX7_isNumber 0 = .ok (.iload_n 0, 1) := by decide +kernel
theorem dX7_isNumber_1 : decode cX7_isNumber 1 = .ok (.ifCond .lt 12, 3) := by decide +kernel
theorem dX7_isNumber_4 : decode cX7_isNumber 4 = .ok (.iload_n 0, 1) := by decide +kernel
theorem dX7_isNumber_5 : decode cX7_isNumber 5 = .ok (.iload_n 1, 1) := by decide +kernel
theorem dX7_isNumber_6 : decode cX7_isNumber 6 = .ok (.if_icmp .ge 7, 3) := by decide +kernel
theorem dX7_isNumber_9 : decode cX7_isNumber 9 = .ok (.iconst 1, 1) := by decide +kernel
theorem dX7_isNumber_10 : decode cX7_isNumber 10 = .ok (.goto 4, 3) := by decide +kernel
theorem dX7_isNumber_13 : decode cX7_isNumber 13 = .ok (.iconst 0, 1) := by decide +kernel
theorem dX7_isNumber_14 : decode cX7_isNumber 14 = .ok (.ireturn, 1) := by decide +kernel
theorem dX7_isWithin_0 : decode cX7_isWithin 0 = .ok (.iload_n 0, 1) := by decide +kernel
theorem dX7_isWithin_1 : decode cX7_isWithin 1 = .ok (.iload_n 1, 1) := by decide +kernel
theorem dX7_isWithin_2 : decode cX7_isWithin 2 = .ok (.if_icmp .lt 12, 3) := by decide +kernel
theorem dX7_isWithin_5 : decode cX7_isWithin 5 = .ok (.iload_n 0, 1) := by decide +kernel
theorem dX7_isWithin_6 : decode cX7_isWithin 6 = .ok (.iload_n 2, 1) := by decide +kernel
theorem dX7_isWithin_7 : decode cX7_isWithin 7 = .ok (.if_icmp .gt 7, 3) := by decide +kernel
theorem dX7_isWithin_10 : decode cX7_isWithin 10 = .ok (.iconst 1, 1) := by decide +kernel
theorem dX7_isWithin_11 : decode cX7_isWithin 11 = .ok (.goto 4, 3) := by decide +kernel
theorem dX7_isWithin_14 : decode cX7_isWithin 14 = .ok (.iconst 0, 1) := by decide +kernel
theorem dX7_isWithin_15 : decode cX7_isWithin 15 = .ok (.ireturn, 1) := by decide +kernel
theorem dX7_needNumber_0 : decode cX7_needNumber 0 = .ok (.iload_n 0, 1) := by decide +kernel
theorem dX7_needNumber_1 : decode cX7_needNumber 1 = .ok (.iload_n 1, 1) := by decide +kernel
theorem dX7_needNumber_2 : decode cX7_needNumber 2 = .ok (.invokestatic 363, 3) := by decide +kernel
theorem dX7_needNumber_5 : decode cX7_needNumber 5 = .ok (.ifCond .ne 14, 3) := by decide +kernel
theorem dX7_needNumber_8 : decode cX7_needNumber 8 = .ok (.new 367, 3) := by decide +kernel
theorem dX7_needNumber_11 : decode cX7_needNumber 11 = .ok (.dup, 1) := by decide +kernel
theorem dX7_needNumber_12 : decode cX7_needNumber 12 = .ok (.ldc_w 369, 3) := by decide +kernel
theorem dX7_needNumber_15 : decode cX7_needNumber 15 = .ok (.invokespecial 371, 3) := by decide +kernel
theorem dX7_needNumber_18 : decode cX7_needNumber 18 = .ok (.athrow, 1) := by decide +kernel
theorem dX7_needNumber_19 : decode cX7_needNumber 19 = .ok (.return_, 1) := by decide +kernel
theorem dX7_raise_0 : decode cX7_raise 0 = .ok (.iload_n 0, 1) := by decide +kernel
theorem dX7_raise_1 : decode cX7_raise 1 = .ok (.tableswitch 75 1 4 #[31, 42, 53, 64], 31) := by decide +kernel
theorem dX7_raise_32 : decode cX7_raise 32 = .ok (.new 367, 3) := by decide +kernel
theorem dX7_raise_35 : decode cX7_raise 35 = .ok (.dup, 1) := by decide +kernel
theorem dX7_raise_36 : decode cX7_raise 36 = .ok (.ldc_w 369, 3) := by decide +kernel
theorem dX7_raise_39 : decode cX7_raise 39 = .ok (.invokespecial 371, 3) := by decide +kernel
theorem dX7_raise_42 : decode cX7_raise 42 = .ok (.athrow, 1) := by decide +kernel
theorem dX7_raise_43 : decode cX7_raise 43 = .ok (.new 227, 3) := by decide +kernel
theorem dX7_raise_46 : decode cX7_raise 46 = .ok (.dup, 1) := by decide +kernel
theorem dX7_raise_47 : decode cX7_raise 47 = .ok (.ldc_w 372, 3) := by decide +kernel
theorem dX7_raise_50 : decode cX7_raise 50 = .ok (.invokespecial 231, 3) := by decide +kernel
theorem dX7_raise_53 : decode cX7_raise 53 = .ok (.athrow, 1) := by decide +kernel
theorem dX7_raise_54 : decode cX7_raise 54 = .ok (.new 232, 3) := by decide +kernel
theorem dX7_raise_57 : decode cX7_raise 57 = .ok (.dup, 1) := by decide +kernel
theorem dX7_raise_58 : decode cX7_raise 58 = .ok (.ldc_w 374, 3) := by decide +kernel
theorem dX7_raise_61 : decode cX7_raise 61 = .ok (.invokespecial 236, 3) := by decide +kernel
theorem dX7_raise_64 : decode cX7_raise 64 = .ok (.athrow, 1) := by decide +kernel
theorem dX7_raise_65 : decode cX7_raise 65 = .ok (.new 376, 3) := by decide +kernel
theorem dX7_raise_68 : decode cX7_raise 68 = .ok (.dup, 1) := by decide +kernel
theorem dX7_raise_69 : decode cX7_raise 69 = .ok (.ldc_w 378, 3) := by decide +kernel
theorem dX7_raise_72 : decode cX7_raise 72 = .ok (.invokespecial 380, 3) := by decide +kernel
theorem dX7_raise_75 : decode cX7_raise 75 = .ok (.athrow, 1) := by decide +kernel
theorem dX7_raise_76 : decode cX7_raise 76 = .ok (.return_, 1) := by decide +kernel
