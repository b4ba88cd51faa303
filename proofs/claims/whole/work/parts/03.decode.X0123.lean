theorem dX0_wordOf_0 : decode cX0_wordOf 0 = .ok (.iload_n 0, 1) := by decide +kernel
theorem dX0_wordOf_1 : decode cX0_wordOf 1 = .ok (.tableswitch 71 0 7 #[47, 50, 53, 56, 59, 62, 65, 68], 47) := by decide +kernel
theorem dX0_wordOf_48 : decode cX0_wordOf 48 = .ok (.ldc 7, 2) := by decide +kernel
theorem dX0_wordOf_50 : decode cX0_wordOf 50 = .ok (.areturn, 1) := by decide +kernel
theorem dX0_wordOf_51 : decode cX0_wordOf 51 = .ok (.ldc 9, 2) := by decide +kernel
theorem dX0_wordOf_53 : decode cX0_wordOf 53 = .ok (.areturn, 1) := by decide +kernel
theorem dX0_wordOf_54 : decode cX0_wordOf 54 = .ok (.ldc 11, 2) := by decide +kernel
theorem dX0_wordOf_56 : decode cX0_wordOf 56 = .ok (.areturn, 1) := by decide +kernel
theorem dX0_wordOf_57 : decode cX0_wordOf 57 = .ok (.ldc 13, 2) := by decide +kernel
theorem dX0_wordOf_59 : decode cX0_wordOf 59 = .ok (.areturn, 1) := by decide +kernel
theorem dX0_wordOf_60 : decode cX0_wordOf 60 = .ok (.ldc 15, 2) := by decide +kernel
theorem dX0_wordOf_62 : decode cX0_wordOf 62 = .ok (.areturn, 1) := by decide +kernel
theorem dX0_wordOf_63 : decode cX0_wordOf 63 = .ok (.ldc 17, 2) := by decide +kernel
theorem dX0_wordOf_65 : decode cX0_wordOf 65 = .ok (.areturn, 1) := by decide +kernel
theorem dX0_wordOf_66 : decode cX0_wordOf 66 = .ok (.ldc 19, 2) := by decide +kernel
theorem dX0_wordOf_68 : decode cX0_wordOf 68 = .ok (.areturn, 1) := by decide +kernel
theorem dX0_wordOf_69 : decode cX0_wordOf 69 = .ok (.ldc 21, 2) := by decide +kernel
theorem dX0_wordOf_71 : decode cX0_wordOf 71 = .ok (.areturn, 1) := by decide +kernel
theorem dX0_wordOf_72 : decode cX0_wordOf 72 = .ok (.ldc 23, 2) := by decide +kernel
theorem dX0_wordOf_74 : decode cX0_wordOf 74 = .ok (.areturn, 1) := by decide +kernel
theorem dX0_digitsOf_0 : decode cX0_digitsOf 0 = .ok (.iload_n 0, 1) := by decide +kernel
theorem dX0_digitsOf_1 : decode cX0_digitsOf 1 = .ok (.tableswitch 68 0 7 #[47, 50, 53, 56, 68, 59, 62, 65], 47) := by decide +kernel
theorem dX0_digitsOf_48 : decode cX0_digitsOf 48 = .ok (.ldc 25, 2) := by decide +kernel
theorem dX0_digitsOf_50 : decode cX0_digitsOf 50 = .ok (.areturn, 1) := by decide +kernel
theorem dX0_digitsOf_51 : decode cX0_digitsOf 51 = .ok (.ldc 27, 2) := by decide +kernel
theorem dX0_digitsOf_53 : decode cX0_digitsOf 53 = .ok (.areturn, 1) := by decide +kernel
theorem dX0_digitsOf_54 : decode cX0_digitsOf 54 = .ok (.ldc 29, 2) := by decide +kernel
theorem dX0_digitsOf_56 : decode cX0_digitsOf 56 = .ok (.areturn, 1) := by decide +kernel
theorem dX0_digitsOf_57 : decode cX0_digitsOf 57 = .ok (.ldc 31, 2) := by decide +kernel
theorem dX0_digitsOf_59 : decode cX0_digitsOf 59 = .ok (.areturn, 1) := by decide +kernel
theorem dX0_digitsOf_60 : decode cX0_digitsOf 60 = .ok (.ldc 33, 2) := by decide +kernel
theorem dX0_digitsOf_62 : decode cX0_digitsOf 62 = .ok (.areturn, 1) := by decide +kernel
theorem dX0_digitsOf_63 : decode cX0_digitsOf 63 = .ok (.ldc 33, 2) := by decide +kernel
theorem dX0_digitsOf_65 : decode cX0_digitsOf 65 = .ok (.areturn, 1) := by decide +kernel
theorem dX0_digitsOf_66 : decode cX0_digitsOf 66 = .ok (.ldc 33, 2) := by decide +kernel
theorem dX0_digitsOf_68 : decode cX0_digitsOf 68 = .ok (.areturn, 1) := by decide +kernel
theorem dX0_digitsOf_69 : decode cX0_digitsOf 69 = .ok (.ldc 23, 2) := by decide +kernel
theorem dX0_digitsOf_71 : decode cX0_digitsOf 71 = .ok (.areturn, 1) := by decide +kernel
theorem dX1_init_0 : decode cX1_init 0 = .ok (.aload_n 0, 1) := by decide +kernel
theorem dX1_init_1 : decode cX1_init 1 = .ok (.invokespecial 3, 3) := by decide +kernel
theorem dX1_init_4 : decode cX1_init 4 = .ok (.aload_n 0, 1) := by decide +kernel
theorem dX1_init_5 : decode cX1_init 5 = .ok (.bipush 12, 2) := by decide +kernel
theorem dX1_init_7 : decode cX1_init 7 = .ok (.newarray .int, 2) := by decide +kernel
theorem dX1_init_9 : decode cX1_init 9 = .ok (.putfield 11, 3) := by decide +kernel
theorem dX1_init_12 : decode cX1_init 12 = .ok (.aload_n 0, 1) := by decide +kernel
theorem dX1_init_13 : decode cX1_init 13 = .ok (.bipush 60, 2) := by decide +kernel
theorem dX1_init_15 : decode cX1_init 15 = .ok (.newarray .int, 2) := by decide +kernel
theorem dX1_init_17 : decode cX1_init 17 = .ok (.putfield 15, 3) := by decide +kernel
theorem dX1_init_20 : decode cX1_init 20 = .ok (.return_, 1) := by decide +kernel
theorem dX1_read_0 : decode cX1_read 0 = .ok (.aload_n 0, 1) := by decide +kernel
theorem dX1_read_1 : decode cX1_read 1 = .ok (.iconst 0, 1) := by decide +kernel
theorem dX1_read_2 : decode cX1_read 2 = .ok (.putfield 18, 3) := by decide +kernel
theorem dX1_read_5 : decode cX1_read 5 = .ok (.aload_n 0, 1) := by decide +kernel
theorem dX1_read_6 : decode cX1_read 6 = .ok (.iconst 0, 1) := by decide +kernel
theorem dX1_read_7 : decode cX1_read 7 = .ok (.putfield 22, 3) := by decide +kernel
theorem dX1_read_10 : decode cX1_read 10 = .ok (.aload_n 0, 1) := by decide +kernel
theorem dX1_read_11 : decode cX1_read 11 = .ok (.getfield 22, 3) := by decide +kernel
theorem dX1_read_14 : decode cX1_read 14 = .ok (.bipush 12, 2) := by decide +kernel
theorem dX1_read_16 : decode cX1_read 16 = .ok (.if_icmp .ge 64, 3) := by decide +kernel
theorem dX1_read_19 : decode cX1_read 19 = .ok (.aload_n 0, 1) := by decide +kernel
theorem dX1_read_20 : decode cX1_read 20 = .ok (.aload_n 1, 1) := by decide +kernel
theorem dX1_read_21 : decode cX1_read 21 = .ok (.invokevirtual 25, 3) := by decide +kernel
theorem dX1_read_24 : decode cX1_read 24 = .ok (.ifCond .ne 5, 3) := by decide +kernel
theorem dX1_read_27 : decode cX1_read 27 = .ok (.iconst 0, 1) := by decide +kernel
theorem dX1_read_28 : decode cX1_read 28 = .ok (.ireturn, 1) := by decide +kernel
theorem dX1_read_29 : decode cX1_read 29 = .ok (.aload_n 0, 1) := by decide +kernel
theorem dX1_read_30 : decode cX1_read 30 = .ok (.dup, 1) := by decide +kernel
theorem dX1_read_31 : decode cX1_read 31 = .ok (.getfield 22, 3) := by decide +kernel
theorem dX1_read_34 : decode cX1_read 34 = .ok (.iconst 1, 1) := by decide +kernel
theorem dX1_read_35 : decode cX1_read 35 = .ok (.iadd, 1) := by decide +kernel
theorem dX1_read_36 : decode cX1_read 36 = .ok (.putfield 22, 3) := by decide +kernel
theorem dX1_read_39 : decode cX1_read 39 = .ok (.aload_n 0, 1) := by decide +kernel
theorem dX1_read_40 : decode cX1_read 40 = .ok (.getfield 18, 3) := by decide +kernel
theorem dX1_read_43 : decode cX1_read 43 = .ok (.aload_n 1, 1) := by decide +kernel
theorem dX1_read_44 : decode cX1_read 44 = .ok (.invokevirtual 29, 3) := by decide +kernel
theorem dX1_read_47 : decode cX1_read 47 = .ok (.if_icmp .ne 5, 3) := by decide +kernel
theorem dX1_read_50 : decode cX1_read 50 = .ok (.iconst 1, 1) := by decide +kernel
theorem dX1_read_51 : decode cX1_read 51 = .ok (.ireturn, 1) := by decide +kernel
theorem dX1_read_52 : decode cX1_read 52 = .ok (.aload_n 1, 1) := by decide +kernel
theorem dX1_read_53 : decode cX1_read 53 = .ok (.aload_n 0, 1) := by decide +kernel
theorem dX1_read_54 : decode cX1_read 54 = .ok (.getfield 18, 3) := by decide +kernel
theorem dX1_read_57 : decode cX1_read 57 = .ok (.invokestatic 35, 3) := by decide +kernel
theorem dX1_read_60 : decode cX1_read 60 = .ok (.bipush 59, 2) := by decide +kernel
theorem dX1_read_62 : decode cX1_read 62 = .ok (.if_icmp .eq 5, 3) := by decide +kernel
theorem dX1_read_65 : decode cX1_read 65 = .ok (.iconst 0, 1) := by decide +kernel
theorem dX1_read_66 : decode cX1_read 66 = .ok (.ireturn, 1) := by decide +kernel
theorem dX1_read_67 : decode cX1_read 67 = .ok (.aload_n 0, 1) := by decide +kernel
theorem dX1_read_68 : decode cX1_read 68 = .ok (.dup, 1) := by decide +kernel
theorem dX1_read_69 : decode cX1_read 69 = .ok (.getfield 18, 3) := by decide +kernel
theorem dX1_read_72 : decode cX1_read 72 = .ok (.iconst 1, 1) := by decide +kernel
theorem dX1_read_73 : decode cX1_read 73 = .ok (.iadd, 1) := by decide +kernel
theorem dX1_read_74 : decode cX1_read 74 = .ok (.putfield 18, 3) := by decide +kernel
theorem dX1_read_77 : decode cX1_read 77 = .ok (.goto (-67), 3) := by decide +kernel
theorem dX1_read_80 : decode cX1_read 80 = .ok (.iconst 0, 1) := by decide +kernel
theorem dX1_read_81 : decode cX1_read 81 = .ok (.ireturn, 1) := by decide +kernel
theorem dX1_readCommand_0 : decode cX1_readCommand 0 = .ok (.aload_n 0, 1) := by decide +kernel
theorem dX1_readCommand_1 : decode cX1_readCommand 1 = .ok (.aload_n 1, 1) := by decide +kernel
theorem dX1_readCommand_2 : decode cX1_readCommand 2 = .ok (.invokevirtual 39, 3) := by decide +kernel
theorem dX1_readCommand_5 : decode cX1_readCommand 5 = .ok (.istore_n 2, 1) := by decide +kernel
theorem dX1_readCommand_6 : decode cX1_readCommand 6 = .ok (.iload_n 2, 1) := by decide +kernel
theorem dX1_readCommand_7 : decode cX1_readCommand 7 = .ok (.iconst (-1), 1) := by decide +kernel
theorem dX1_readCommand_8 : decode cX1_readCommand 8 = .ok (.if_icmp .ne 5, 3) := by decide +kernel
theorem dX1_readCommand_11 : decode cX1_readCommand 11 = .ok (.iconst 0, 1) := by decide +kernel
theorem dX1_readCommand_12 : decode cX1_readCommand 12 = .ok (.ireturn, 1) := by decide +kernel
theorem dX1_readCommand_13 : decode cX1_readCommand 13 = .ok (.aload_n 0, 1) := by decide +kernel
theorem dX1_readCommand_14 : decode cX1_readCommand 14 = .ok (.getfield 11, 3) := by decide +kernel
theorem dX1_readCommand_17 : decode cX1_readCommand 17 = .ok (.aload_n 0, 1) := by decide +kernel
theorem dX1_readCommand_18 : decode cX1_readCommand 18 = .ok (.getfield 22, 3) := by decide +kernel
theorem dX1_readCommand_21 : decode cX1_readCommand 21 = .ok (.iload_n 2, 1) := by decide +kernel
theorem dX1_readCommand_22 : decode cX1_readCommand 22 = .ok (.iastore, 1) := by decide +kernel
theorem dX1_readCommand_23 : decode cX1_readCommand 23 = .ok (.iload_n 2, 1) := by decide +kernel
theorem dX1_readCommand_24 : decode cX1_readCommand 24 = .ok (.invokestatic 43, 3) := by decide +kernel
theorem dX1_readCommand_27 : decode cX1_readCommand 27 = .ok (.astore_n 3, 1) := by decide +kernel
theorem dX1_readCommand_28 : decode cX1_readCommand 28 = .ok (.iconst 0, 1) := by decide +kernel
theorem dX1_readCommand_29 : decode cX1_readCommand 29 = .ok (.istore 4, 2) := by decide +kernel
theorem dX1_readCommand_31 : decode cX1_readCommand 31 = .ok (.iload 4, 2) := by decide +kernel
theorem dX1_readCommand_33 : decode cX1_readCommand 33 = .ok (.aload_n 3, 1) := by decide +kernel
theorem dX1_readCommand_34 : decode cX1_readCommand 34 = .ok (.invokevirtual 49, 3) := by decide +kernel
theorem dX1_readCommand_37 : decode cX1_readCommand 37 = .ok (.if_icmp .ge 43, 3) := by decide +kernel
theorem dX1_readCommand_40 : decode cX1_readCommand 40 = .ok (.iload 4, 2) := by decide +kernel
theorem dX1_readCommand_42 : decode cX1_readCommand 42 = .ok (.iconst 5, 1) := by decide +kernel
theorem dX1_readCommand_43 : decode cX1_readCommand 43 = .ok (.if_icmp .ge 37, 3) := by decide +kernel
theorem dX1_readCommand_46 : decode cX1_readCommand 46 = .ok (.aload_n 0, 1) := by decide +kernel
theorem dX1_readCommand_47 : decode cX1_readCommand 47 = .ok (.aload_n 1, 1) := by decide +kernel
theorem dX1_readCommand_48 : decode cX1_readCommand 48 = .ok (.aload_n 3, 1) := by decide +kernel
theorem dX1_readCommand_49 : decode cX1_readCommand 49 = .ok (.iload 4, 2) := by decide +kernel
theorem dX1_readCommand_51 : decode cX1_readCommand 51 = .ok (.invokevirtual 52, 3) := by decide +kernel
theorem dX1_readCommand_54 : decode cX1_readCommand 54 = .ok (.bipush 48, 2) := by decide +kernel
theorem dX1_readCommand_56 : decode cX1_readCommand 56 = .ok (.isub, 1) := by decide +kernel
theorem dX1_readCommand_57 : decode cX1_readCommand 57 = .ok (.aload_n 0, 1) := by decide +kernel
theorem dX1_readCommand_58 : decode cX1_readCommand 58 = .ok (.getfield 22, 3) := by decide +kernel
theorem dX1_readCommand_61 : decode cX1_readCommand 61 = .ok (.iconst 5, 1) := by decide +kernel
theorem dX1_readCommand_62 : decode cX1_readCommand 62 = .ok (.imul, 1) := by decide +kernel
theorem dX1_readCommand_63 : decode cX1_readCommand 63 = .ok (.iload 4, 2) := by decide +kernel
theorem dX1_readCommand_65 : decode cX1_readCommand 65 = .ok (.iadd, 1) := by decide +kernel
theorem dX1_readCommand_66 : decode cX1_readCommand 66 = .ok (.invokevirtual 56, 3) := by decide +kernel
theorem dX1_readCommand_69 : decode cX1_readCommand 69 = .ok (.ifCond .ne 5, 3) := by decide +kernel
theorem dX1_readCommand_72 : decode cX1_readCommand 72 = .ok (.iconst 0, 1) := by decide +kernel
theorem dX1_readCommand_73 : decode cX1_readCommand 73 = .ok (.ireturn, 1) := by decide +kernel
theorem dX1_readCommand_74 : decode cX1_readCommand 74 = .ok (.iinc 4 1, 3) := by decide +kernel
theorem dX1_readCommand_77 : decode cX1_readCommand 77 = .ok (.goto (-46), 3) := by decide +kernel
theorem dX1_readCommand_80 : decode cX1_readCommand 80 = .ok (.iconst 1, 1) := by decide +kernel
theorem dX1_readCommand_81 : decode cX1_readCommand 81 = .ok (.ireturn, 1) := by decide +kernel
theorem dX1_readWord_0 : decode cX1_readWord 0 = .ok (.iconst (-1), 1) := by decide +kernel
theorem dX1_readWord_1 : decode cX1_readWord 1 = .ok (.istore_n 2, 1) := by decide +kernel
theorem dX1_readWord_2 : decode cX1_readWord 2 = .ok (.iconst 0, 1) := by decide +kernel
theorem dX1_readWord_3 : decode cX1_readWord 3 = .ok (.istore_n 3, 1) := by decide +kernel
theorem dX1_readWord_4 : decode cX1_readWord 4 = .ok (.iconst 0, 1) := by decide +kernel
theorem dX1_readWord_5 : decode cX1_readWord 5 = .ok (.istore 4, 2) := by decide +kernel
theorem dX1_readWord_7 : decode cX1_readWord 7 = .ok (.iconst 0, 1) := by decide +kernel
theorem dX1_readWord_8 : decode cX1_readWord 8 = .ok (.istore 5, 2) := by decide +kernel
theorem dX1_readWord_10 : decode cX1_readWord 10 = .ok (.iload 5, 2) := by decide +kernel
theorem dX1_readWord_12 : decode cX1_readWord 12 = .ok (.bipush 8, 2) := by decide +kernel
theorem dX1_readWord_14 : decode cX1_readWord 14 = .ok (.if_icmp .ge 56, 3) := by decide +kernel
theorem dX1_readWord_17 : decode cX1_readWord 17 = .ok (.iload 5, 2) := by decide +kernel
theorem dX1_readWord_19 : decode cX1_readWord 19 = .ok (.invokestatic 60, 3) := by decide +kernel
theorem dX1_readWord_22 : decode cX1_readWord 22 = .ok (.astore 6, 2) := by decide +kernel
theorem dX1_readWord_24 : decode cX1_readWord 24 = .ok (.aload_n 0, 1) := by decide +kernel
theorem dX1_readWord_25 : decode cX1_readWord 25 = .ok (.aload_n 1, 1) := by decide +kernel
theorem dX1_readWord_26 : decode cX1_readWord 26 = .ok (.aload 6, 2) := by decide +kernel
theorem dX1_readWord_28 : decode cX1_readWord 28 = .ok (.invokevirtual 63, 3) := by decide +kernel
theorem dX1_readWord_31 : decode cX1_readWord 31 = .ok (.istore 7, 2) := by decide +kernel
theorem dX1_readWord_33 : decode cX1_readWord 33 = .ok (.iload 4, 2) := by decide +kernel
theorem dX1_readWord_35 : decode cX1_readWord 35 = .ok (.iload 7, 2) := by decide +kernel
theorem dX1_readWord_37 : decode cX1_readWord 37 = .ok (.invokestatic 67, 3) := by decide +kernel
theorem dX1_readWord_40 : decode cX1_readWord 40 = .ok (.istore 4, 2) := by decide +kernel
theorem dX1_readWord_42 : decode cX1_readWord 42 = .ok (.iload 7, 2) := by decide +kernel
theorem dX1_readWord_44 : decode cX1_readWord 44 = .ok (.aload 6, 2) := by decide +kernel
theorem dX1_readWord_46 : decode cX1_readWord 46 = .ok (.invokevirtual 49, 3) := by decide +kernel
theorem dX1_readWord_49 : decode cX1_readWord 49 = .ok (.if_icmp .ne 15, 3) := by decide +kernel
theorem dX1_readWord_52 : decode cX1_readWord 52 = .ok (.iload 7, 2) := by decide +kernel
theorem dX1_readWord_54 : decode cX1_readWord 54 = .ok (.iload_n 3, 1) := by decide +kernel
theorem dX1_readWord_55 : decode cX1_readWord 55 = .ok (.if_icmp .le 9, 3) := by decide +kernel
theorem dX1_readWord_58 : decode cX1_readWord 58 = .ok (.iload 5, 2) := by decide +kernel
theorem dX1_readWord_60 : decode cX1_readWord 60 = .ok (.istore_n 2, 1) := by decide +kernel
theorem dX1_readWord_61 : decode cX1_readWord 61 = .ok (.iload 7, 2) := by decide +kernel
theorem dX1_readWord_63 : decode cX1_readWord 63 = .ok (.istore_n 3, 1) := by decide +kernel
theorem dX1_readWord_64 : decode cX1_readWord 64 = .ok (.iinc 5 1, 3) := by decide +kernel
theorem dX1_readWord_67 : decode cX1_readWord 67 = .ok (.goto (-57), 3) := by decide +kernel
theorem dX1_readWord_70 : decode cX1_readWord 70 = .ok (.aload_n 0, 1) := by decide +kernel
theorem dX1_readWord_71 : decode cX1_readWord 71 = .ok (.dup, 1) := by decide +kernel
theorem dX1_readWord_72 : decode cX1_readWord 72 = .ok (.getfield 18, 3) := by decide +kernel
theorem dX1_readWord_75 : decode cX1_readWord 75 = .ok (.iload 4, 2) := by decide +kernel
theorem dX1_readWord_77 : decode cX1_readWord 77 = .ok (.iadd, 1) := by decide +kernel
theorem dX1_readWord_78 : decode cX1_readWord 78 = .ok (.putfield 18, 3) := by decide +kernel
theorem dX1_readWord_81 : decode cX1_readWord 81 = .ok (.iload_n 2, 1) := by decide +kernel
theorem dX1_readWord_82 : decode cX1_readWord 82 = .ok (.ireturn, 1) := by decide +kernel
theorem dX1_commonLength_0 : decode cX1_commonLength 0 = .ok (.iconst 0, 1) := by decide +kernel
theorem dX1_commonLength_1 : decode cX1_commonLength 1 = .ok (.istore_n 3, 1) := by decide +kernel
theorem dX1_commonLength_2 : decode cX1_commonLength 2 = .ok (.iload_n 3, 1) := by decide +kernel
theorem dX1_commonLength_3 : decode cX1_commonLength 3 = .ok (.aload_n 2, 1) := by decide +kernel
theorem dX1_commonLength_4 : decode cX1_commonLength 4 = .ok (.invokevirtual 49, 3) := by decide +kernel
theorem dX1_commonLength_7 : decode cX1_commonLength 7 = .ok (.if_icmp .ge 27, 3) := by decide +kernel
theorem dX1_commonLength_10 : decode cX1_commonLength 10 = .ok (.aload_n 1, 1) := by decide +kernel
theorem dX1_commonLength_11 : decode cX1_commonLength 11 = .ok (.aload_n 0, 1) := by decide +kernel
theorem dX1_commonLength_12 : decode cX1_commonLength 12 = .ok (.getfield 18, 3) := by decide +kernel
theorem dX1_commonLength_15 : decode cX1_commonLength 15 = .ok (.iload_n 3, 1) := by decide +kernel
theorem dX1_commonLength_16 : decode cX1_commonLength 16 = .ok (.iadd, 1) := by decide +kernel
theorem dX1_commonLength_17 : decode cX1_commonLength 17 = .ok (.invokestatic 35, 3) := by decide +kernel
theorem dX1_commonLength_20 : decode cX1_commonLength 20 = .ok (.aload_n 2, 1) := by decide +kernel
theorem dX1_commonLength_21 : decode cX1_commonLength 21 = .ok (.iload_n 3, 1) := by decide +kernel
theorem dX1_commonLength_22 : decode cX1_commonLength 22 = .ok (.invokevirtual 52, 3) := by decide +kernel
theorem dX1_commonLength_25 : decode cX1_commonLength 25 = .ok (.if_icmp .ne 9, 3) := by decide +kernel
theorem dX1_commonLength_28 : decode cX1_commonLength 28 = .ok (.iinc 3 1, 3) := by decide +kernel
theorem dX1_commonLength_31 : decode cX1_commonLength 31 = .ok (.goto (-29), 3) := by decide +kernel
theorem dX1_commonLength_34 : decode cX1_commonLength 34 = .ok (.iload_n 3, 1) := by decide +kernel
theorem dX1_commonLength_35 : decode cX1_commonLength 35 = .ok (.ireturn, 1) := by decide +kernel
theorem dX1_readNumber_0 : decode cX1_readNumber 0 = .ok (.aload_n 1, 1) := by decide +kernel
theorem dX1_readNumber_1 : decode cX1_readNumber 1 = .ok (.aload_n 0, 1) := by decide +kernel
theorem dX1_readNumber_2 : decode cX1_readNumber 2 = .ok (.getfield 18, 3) := by decide +kernel
theorem dX1_readNumber_5 : decode cX1_readNumber 5 = .ok (.invokestatic 35, 3) := by decide +kernel
theorem dX1_readNumber_8 : decode cX1_readNumber 8 = .ok (.bipush 32, 2) := by decide +kernel
theorem dX1_readNumber_10 : decode cX1_readNumber 10 = .ok (.if_icmp .eq 5, 3) := by decide +kernel
theorem dX1_readNumber_13 : decode cX1_readNumber 13 = .ok (.iconst 0, 1) := by decide +kernel
theorem dX1_readNumber_14 : decode cX1_readNumber 14 = .ok (.ireturn, 1) := by decide +kernel
theorem dX1_readNumber_15 : decode cX1_readNumber 15 = .ok (.aload_n 0, 1) := by decide +kernel
theorem dX1_readNumber_16 : decode cX1_readNumber 16 = .ok (.dup, 1) := by decide +kernel
theorem dX1_readNumber_17 : decode cX1_readNumber 17 = .ok (.getfield 18, 3) := by decide +kernel
theorem dX1_readNumber_20 : decode cX1_readNumber 20 = .ok (.iconst 1, 1) := by decide +kernel
theorem dX1_readNumber_21 : decode cX1_readNumber 21 = .ok (.iadd, 1) := by decide +kernel
theorem dX1_readNumber_22 : decode cX1_readNumber 22 = .ok (.putfield 18, 3) := by decide +kernel
theorem dX1_readNumber_25 : decode cX1_readNumber 25 = .ok (.iconst 0, 1) := by decide +kernel
theorem dX1_readNumber_26 : decode cX1_readNumber 26 = .ok (.istore 4, 2) := by decide +kernel
theorem dX1_readNumber_28 : decode cX1_readNumber 28 = .ok (.iconst 0, 1) := by decide +kernel
theorem dX1_readNumber_29 : decode cX1_readNumber 29 = .ok (.istore 5, 2) := by decide +kernel
theorem dX1_readNumber_31 : decode cX1_readNumber 31 = .ok (.iload 5, 2) := by decide +kernel
theorem dX1_readNumber_33 : decode cX1_readNumber 33 = .ok (.iload_n 2, 1) := by decide +kernel
theorem dX1_readNumber_34 : decode cX1_readNumber 34 = .ok (.if_icmp .ge 52, 3) := by decide +kernel
theorem dX1_readNumber_37 : decode cX1_readNumber 37 = .ok (.aload_n 1, 1) := by decide +kernel
theorem dX1_readNumber_38 : decode cX1_readNumber 38 = .ok (.aload_n 0, 1) := by decide +kernel
theorem dX1_readNumber_39 : decode cX1_readNumber 39 = .ok (.getfield 18, 3) := by decide +kernel
theorem dX1_readNumber_42 : decode cX1_readNumber 42 = .ok (.invokestatic 35, 3) := by decide +kernel
theorem dX1_readNumber_45 : decode cX1_readNumber 45 = .ok (.invokestatic 73, 3) := by decide +kernel
theorem dX1_readNumber_48 : decode cX1_readNumber 48 = .ok (.ifCond .eq 38, 3) := by decide +kernel
theorem dX1_readNumber_51 : decode cX1_readNumber 51 = .ok (.iload 4, 2) := by decide +kernel
theorem dX1_readNumber_53 : decode cX1_readNumber 53 = .ok (.bipush 10, 2) := by decide +kernel
theorem dX1_readNumber_55 : decode cX1_readNumber 55 = .ok (.imul, 1) := by decide +kernel
theorem dX1_readNumber_56 : decode cX1_readNumber 56 = .ok (.aload_n 1, 1) := by decide +kernel
theorem dX1_readNumber_57 : decode cX1_readNumber 57 = .ok (.aload_n 0, 1) := by decide +kernel
theorem dX1_readNumber_58 : decode cX1_readNumber 58 = .ok (.getfield 18, 3) := by decide +kernel
theorem dX1_readNumber_61 : decode cX1_readNumber 61 = .ok (.invokestatic 35, 3) := by decide +kernel
theorem dX1_readNumber_64 : decode cX1_readNumber 64 = .ok (.bipush 48, 2) := by decide +kernel
theorem dX1_readNumber_66 : decode cX1_readNumber 66 = .ok (.isub, 1) := by decide +kernel
theorem dX1_readNumber_67 : decode cX1_readNumber 67 = .ok (.iadd, 1) := by decide +kernel
theorem dX1_readNumber_68 : decode cX1_readNumber 68 = .ok (.istore 4, 2) := by decide +kernel
theorem dX1_readNumber_70 : decode cX1_readNumber 70 = .ok (.aload_n 0, 1) := by decide +kernel
theorem dX1_readNumber_71 : decode cX1_readNumber 71 = .ok (.dup, 1) := by decide +kernel
theorem dX1_readNumber_72 : decode cX1_readNumber 72 = .ok (.getfield 18, 3) := by decide +kernel
theorem dX1_readNumber_75 : decode cX1_readNumber 75 = .ok (.iconst 1, 1) := by decide +kernel
theorem dX1_readNumber_76 : decode cX1_readNumber 76 = .ok (.iadd, 1) := by decide +kernel
theorem dX1_readNumber_77 : decode cX1_readNumber 77 = .ok (.putfield 18, 3) := by decide +kernel
theorem dX1_readNumber_80 : decode cX1_readNumber 80 = .ok (.iinc 5 1, 3) := by decide +kernel
theorem dX1_readNumber_83 : decode cX1_readNumber 83 = .ok (.goto (-52), 3) := by decide +kernel
theorem dX1_readNumber_86 : decode cX1_readNumber 86 = .ok (.iload_n 3, 1) := by decide +kernel
theorem dX1_readNumber_87 : decode cX1_readNumber 87 = .ok (.aload_n 0, 1) := by decide +kernel
theorem dX1_readNumber_88 : decode cX1_readNumber 88 = .ok (.getfield 15, 3) := by decide +kernel
theorem dX1_readNumber_91 : decode cX1_readNumber 91 = .ok (.arraylength, 1) := by decide +kernel
theorem dX1_readNumber_92 : decode cX1_readNumber 92 = .ok (.invokestatic 77, 3) := by decide +kernel
theorem dX1_readNumber_95 : decode cX1_readNumber 95 = .ok (.ifCond .eq 11, 3) := by decide +kernel
theorem dX1_readNumber_98 : decode cX1_readNumber 98 = .ok (.aload_n 0, 1) := by decide +kernel
theorem dX1_readNumber_99 : decode cX1_readNumber 99 = .ok (.getfield 15, 3) := by decide +kernel
theorem dX1_readNumber_102 : decode cX1_readNumber 102 = .ok (.iload_n 3, 1) := by decide +kernel
theorem dX1_readNumber_103 : decode cX1_readNumber 103 = .ok (.iload 4, 2) := by decide +kernel
theorem dX1_readNumber_105 : decode cX1_readNumber 105 = .ok (.iastore, 1) := by decide +kernel
theorem dX1_readNumber_106 : decode cX1_readNumber 106 = .ok (.iload 5, 2) := by decide +kernel
theorem dX1_readNumber_108 : decode cX1_readNumber 108 = .ok (.ifCond .le 7, 3) := by decide +kernel
theorem dX1_readNumber_111 : decode cX1_readNumber 111 = .ok (.iconst 1, 1) := by decide +kernel
theorem dX1_readNumber_112 : decode cX1_readNumber 112 = .ok (.goto 4, 3) := by decide +kernel
theorem dX1_readNumber_115 : decode cX1_readNumber 115 = .ok (.iconst 0, 1) := by decide +kernel
theorem dX1_readNumber_116 : decode cX1_readNumber 116 = .ok (.ireturn, 1) := by decide +kernel
theorem dX1_commandAt_0 : decode cX1_commandAt 0 = .ok (.iload_n 1, 1) := by decide +kernel
theorem dX1_commandAt_1 : decode cX1_commandAt 1 = .ok (.aload_n 0, 1) := by decide +kernel
theorem dX1_commandAt_2 : decode cX1_commandAt 2 = .ok (.getfield 22, 3) := by decide +kernel
theorem dX1_commandAt_5 : decode cX1_commandAt 5 = .ok (.invokestatic 77, 3) := by decide +kernel
theorem dX1_commandAt_8 : decode cX1_commandAt 8 = .ok (.ifCond .eq 12, 3) := by decide +kernel
theorem dX1_commandAt_11 : decode cX1_commandAt 11 = .ok (.aload_n 0, 1) := by decide +kernel
theorem dX1_commandAt_12 : decode cX1_commandAt 12 = .ok (.getfield 11, 3) := by decide +kernel
theorem dX1_commandAt_15 : decode cX1_commandAt 15 = .ok (.iload_n 1, 1) := by decide +kernel
theorem dX1_commandAt_16 : decode cX1_commandAt 16 = .ok (.iaload, 1) := by decide +kernel
theorem dX1_commandAt_17 : decode cX1_commandAt 17 = .ok (.goto 4, 3) := by decide +kernel
theorem dX1_commandAt_20 : decode cX1_commandAt 20 = .ok (.iconst (-1), 1) := by decide +kernel
theorem dX1_commandAt_21 : decode cX1_commandAt 21 = .ok (.ireturn, 1) := by decide +kernel
theorem dX1_argumentAt_0 : decode cX1_argumentAt 0 = .ok (.iload_n 1, 1) := by decide +kernel
theorem dX1_argumentAt_1 : decode cX1_argumentAt 1 = .ok (.iconst 5, 1) := by decide +kernel
theorem dX1_argumentAt_2 : decode cX1_argumentAt 2 = .ok (.imul, 1) := by decide +kernel
theorem dX1_argumentAt_3 : decode cX1_argumentAt 3 = .ok (.iload_n 2, 1) := by decide +kernel
theorem dX1_argumentAt_4 : decode cX1_argumentAt 4 = .ok (.iadd, 1) := by decide +kernel
theorem dX1_argumentAt_5 : decode cX1_argumentAt 5 = .ok (.istore_n 3, 1) := by decide +kernel
theorem dX1_argumentAt_6 : decode cX1_argumentAt 6 = .ok (.iload_n 3, 1) := by decide +kernel
theorem dX1_argumentAt_7 : decode cX1_argumentAt 7 = .ok (.aload_n 0, 1) := by decide +kernel
theorem dX1_argumentAt_8 : decode cX1_argumentAt 8 = .ok (.getfield 15, 3) := by decide +kernel
theorem dX1_argumentAt_11 : decode cX1_argumentAt 11 = .ok (.arraylength, 1) := by decide +kernel
theorem dX1_argumentAt_12 : decode cX1_argumentAt 12 = .ok (.invokestatic 77, 3) := by decide +kernel
theorem dX1_argumentAt_15 : decode cX1_argumentAt 15 = .ok (.ifCond .eq 12, 3) := by decide +kernel
theorem dX1_argumentAt_18 : decode cX1_argumentAt 18 = .ok (.aload_n 0, 1) := by decide +kernel
theorem dX1_argumentAt_19 : decode cX1_argumentAt 19 = .ok (.getfield 15, 3) := by decide +kernel
theorem dX1_argumentAt_22 : decode cX1_argumentAt 22 = .ok (.iload_n 3, 1) := by decide +kernel
theorem dX1_argumentAt_23 : decode cX1_argumentAt 23 = .ok (.iaload, 1) := by decide +kernel
theorem dX1_argumentAt_24 : decode cX1_argumentAt 24 = .ok (.goto 4, 3) := by decide +kernel
theorem dX1_argumentAt_27 : decode cX1_argumentAt 27 = .ok (.iconst 0, 1) := by decide +kernel
theorem dX1_argumentAt_28 : decode cX1_argumentAt 28 = .ok (.ireturn, 1) := by decide +kernel
theorem dX1_isDigit_0 : decode cX1_isDigit 0 = .ok (.iload_n 0, 1) := by decide +kernel
theorem dX1_isDigit_1 : decode cX1_isDigit 1 = .ok (.bipush 48, 2) := by decide +kernel
theorem dX1_isDigit_3 : decode cX1_isDigit 3 = .ok (.if_icmp .lt 13, 3) := by decide +kernel
theorem dX1_isDigit_6 : decode cX1_isDigit 6 = .ok (.iload_n 0, 1) := by decide +kernel
theorem dX1_isDigit_7 : decode cX1_isDigit 7 = .ok (.bipush 57, 2) := by decide +kernel
theorem dX1_isDigit_9 : decode cX1_isDigit 9 = .ok (.if_icmp .gt 7, 3) := by decide +kernel
theorem dX1_isDigit_12 : decode cX1_isDigit 12 = .ok (.iconst 1, 1) := by decide +kernel
theorem dX1_isDigit_13 : decode cX1_isDigit 13 = .ok (.goto 4, 3) := by decide +kernel
theorem dX1_isDigit_16 : decode cX1_isDigit 16 = .ok (.iconst 0, 1) := by decide +kernel
theorem dX1_isDigit_17 : decode cX1_isDigit 17 = .ok (.ireturn, 1) := by decide +kernel
theorem dX1_signAt_0 : decode cX1_signAt 0 = .ok (.iload_n 1, 1) := by decide +kernel
theorem dX1_signAt_1 : decode cX1_signAt 1 = .ok (.aload_n 0, 1) := by decide +kernel
theorem dX1_signAt_2 : decode cX1_signAt 2 = .ok (.invokevirtual 29, 3) := by decide +kernel
theorem dX1_signAt_5 : decode cX1_signAt 5 = .ok (.invokestatic 77, 3) := by decide +kernel
theorem dX1_signAt_8 : decode cX1_signAt 8 = .ok (.ifCond .eq 11, 3) := by decide +kernel
theorem dX1_signAt_11 : decode cX1_signAt 11 = .ok (.aload_n 0, 1) := by decide +kernel
theorem dX1_signAt_12 : decode cX1_signAt 12 = .ok (.iload_n 1, 1) := by decide +kernel
theorem dX1_signAt_13 : decode cX1_signAt 13 = .ok (.invokevirtual 81, 3) := by decide +kernel
theorem dX1_signAt_16 : decode cX1_signAt 16 = .ok (.goto 4, 3) := by decide +kernel
theorem dX1_signAt_19 : decode cX1_signAt 19 = .ok (.iconst 0, 1) := by decide +kernel
theorem dX1_signAt_20 : decode cX1_signAt 20 = .ok (.ireturn, 1) := by decide +kernel
theorem dX3_init_0 : decode cX3_init 0 = .ok (.aload_n 0, 1) := by decide +kernel
theorem dX3_init_1 : decode cX3_init 1 = .ok (.invokespecial 3, 3) := by decide +kernel
theorem dX3_init_4 : decode cX3_init 4 = .ok (.aload_n 0, 1) := by decide +kernel
theorem dX3_init_5 : decode cX3_init 5 = .ok (.bipush 8, 2) := by decide +kernel
theorem dX3_init_7 : decode cX3_init 7 = .ok (.anewarray 9, 3) := by decide +kernel
theorem dX3_init_10 : decode cX3_init 10 = .ok (.putfield 11, 3) := by decide +kernel
theorem dX3_init_13 : decode cX3_init 13 = .ok (.iconst 0, 1) := by decide +kernel
theorem dX3_init_14 : decode cX3_init 14 = .ok (.istore_n 1, 1) := by decide +kernel
theorem dX3_init_15 : decode cX3_init 15 = .ok (.iload_n 1, 1) := by decide +kernel
theorem dX3_init_16 : decode cX3_init 16 = .ok (.bipush 8, 2) := by decide +kernel
theorem dX3_init_18 : decode cX3_init 18 = .ok (.if_icmp .ge 22, 3) := by decide +kernel
theorem dX3_init_21 : decode cX3_init 21 = .ok (.aload_n 0, 1) := by decide +kernel
theorem dX3_init_22 : decode cX3_init 22 = .ok (.getfield 11, 3) := by decide +kernel
theorem dX3_init_25 : decode cX3_init 25 = .ok (.iload_n 1, 1) := by decide +kernel
theorem dX3_init_26 : decode cX3_init 26 = .ok (.new 9, 3) := by decide +kernel
theorem dX3_init_29 : decode cX3_init 29 = .ok (.dup, 1) := by decide +kernel
theorem dX3_init_30 : decode cX3_init 30 = .ok (.invokespecial 17, 3) := by decide +kernel
theorem dX3_init_33 : decode cX3_init 33 = .ok (.aastore, 1) := by decide +kernel
theorem dX3_init_34 : decode cX3_init 34 = .ok (.iinc 1 1, 3) := by decide +kernel
theorem dX3_init_37 : decode cX3_init 37 = .ok (.goto (-22), 3) := by decide +kernel
theorem dX3_init_40 : decode cX3_init 40 = .ok (.return_, 1) := by decide +kernel
theorem dX3_keep_0 : decode cX3_keep 0 = .ok (.aload_n 0, 1) := by decide +kernel
theorem dX3_keep_1 : decode cX3_keep 1 = .ok (.getfield 11, 3) := by decide +kernel
theorem dX3_keep_4 : decode cX3_keep 4 = .ok (.aload_n 0, 1) := by decide +kernel
theorem dX3_keep_5 : decode cX3_keep 5 = .ok (.getfield 18, 3) := by decide +kernel
theorem dX3_keep_8 : decode cX3_keep 8 = .ok (.bipush 8, 2) := by decide +kernel
theorem dX3_keep_10 : decode cX3_keep 10 = .ok (.invokestatic 22, 3) := by decide +kernel
theorem dX3_keep_13 : decode cX3_keep 13 = .ok (.aaload, 1) := by decide +kernel
theorem dX3_keep_14 : decode cX3_keep 14 = .ok (.astore_n 2, 1) := by decide +kernel
theorem dX3_keep_15 : decode cX3_keep 15 = .ok (.aload_n 2, 1) := by decide +kernel
theorem dX3_keep_16 : decode cX3_keep 16 = .ok (.ifnull 8, 3) := by decide +kernel
theorem dX3_keep_19 : decode cX3_keep 19 = .ok (.aload_n 2, 1) := by decide +kernel
theorem dX3_keep_20 : decode cX3_keep 20 = .ok (.aload_n 1, 1) := by decide +kernel
theorem dX3_keep_21 : decode cX3_keep 21 = .ok (.invokevirtual 28, 3) := by decide +kernel
theorem dX3_keep_24 : decode cX3_keep 24 = .ok (.aload_n 0, 1) := by decide +kernel
theorem dX3_keep_25 : decode cX3_keep 25 = .ok (.aload_n 0, 1) := by decide +kernel
theorem dX3_keep_26 : decode cX3_keep 26 = .ok (.getfield 18, 3) := by decide +kernel
theorem dX3_keep_29 : decode cX3_keep 29 = .ok (.iconst 1, 1) := by decide +kernel
theorem dX3_keep_30 : decode cX3_keep 30 = .ok (.iadd, 1) := by decide +kernel
theorem dX3_keep_31 : decode cX3_keep 31 = .ok (.bipush 8, 2) := by decide +kernel
theorem dX3_keep_33 : decode cX3_keep 33 = .ok (.invokestatic 22, 3) := by decide +kernel
theorem dX3_keep_36 : decode cX3_keep 36 = .ok (.putfield 18, 3) := by decide +kernel
theorem dX3_keep_39 : decode cX3_keep 39 = .ok (.aload_n 0, 1) := by decide +kernel
theorem dX3_keep_40 : decode cX3_keep 40 = .ok (.aload_n 0, 1) := by decide +kernel
theorem dX3_keep_41 : decode cX3_keep 41 = .ok (.getfield 32, 3) := by decide +kernel
theorem dX3_keep_44 : decode cX3_keep 44 = .ok (.iconst 1, 1) := by decide +kernel
theorem dX3_keep_45 : decode cX3_keep 45 = .ok (.iadd, 1) := by decide +kernel
theorem dX3_keep_46 : decode cX3_keep 46 = .ok (.bipush 8, 2) := by decide +kernel
theorem dX3_keep_48 : decode cX3_keep 48 = .ok (.invokestatic 35, 3) := by decide +kernel
theorem dX3_keep_51 : decode cX3_keep 51 = .ok (.putfield 32, 3) := by decide +kernel
theorem dX3_keep_54 : decode cX3_keep 54 = .ok (.return_, 1) := by decide +kernel
theorem dX3_takeBack_0 : decode cX3_takeBack 0 = .ok (.aload_n 0, 1) := by decide +kernel
theorem dX3_takeBack_1 : decode cX3_takeBack 1 = .ok (.aload_n 0, 1) := by decide +kernel
theorem dX3_takeBack_2 : decode cX3_takeBack 2 = .ok (.getfield 18, 3) := by decide +kernel
theorem dX3_takeBack_5 : decode cX3_takeBack 5 = .ok (.iconst 1, 1) := by decide +kernel
theorem dX3_takeBack_6 : decode cX3_takeBack 6 = .ok (.isub, 1) := by decide +kernel
theorem dX3_takeBack_7 : decode cX3_takeBack 7 = .ok (.bipush 8, 2) := by decide +kernel
theorem dX3_takeBack_9 : decode cX3_takeBack 9 = .ok (.invokestatic 22, 3) := by decide +kernel
theorem dX3_takeBack_12 : decode cX3_takeBack 12 = .ok (.putfield 18, 3) := by decide +kernel
theorem dX3_takeBack_15 : decode cX3_takeBack 15 = .ok (.aload_n 0, 1) := by decide +kernel
theorem dX3_takeBack_16 : decode cX3_takeBack 16 = .ok (.getfield 11, 3) := by decide +kernel
theorem dX3_takeBack_19 : decode cX3_takeBack 19 = .ok (.aload_n 0, 1) := by decide +kernel
theorem dX3_takeBack_20 : decode cX3_takeBack 20 = .ok (.getfield 18, 3) := by decide +kernel
theorem dX3_takeBack_23 : decode cX3_takeBack 23 = .ok (.aaload, 1) := by decide +kernel
theorem dX3_takeBack_24 : decode cX3_takeBack 24 = .ok (.astore_n 2, 1) := by decide +kernel
theorem dX3_takeBack_25 : decode cX3_takeBack 25 = .ok (.aload_n 2, 1) := by decide +kernel
theorem dX3_takeBack_26 : decode cX3_takeBack 26 = .ok (.ifnull 8, 3) := by decide +kernel
theorem dX3_takeBack_29 : decode cX3_takeBack 29 = .ok (.aload_n 1, 1) := by decide +kernel
theorem dX3_takeBack_30 : decode cX3_takeBack 30 = .ok (.aload_n 2, 1) := by decide +kernel
theorem dX3_takeBack_31 : decode cX3_takeBack 31 = .ok (.invokevirtual 28, 3) := by decide +kernel
theorem dX3_takeBack_34 : decode cX3_takeBack 34 = .ok (.aload_n 0, 1) := by decide +kernel
theorem dX3_takeBack_35 : decode cX3_takeBack 35 = .ok (.dup, 1) := by decide +kernel
theorem dX3_takeBack_36 : decode cX3_takeBack 36 = .ok (.getfield 32, 3) := by decide +kernel
theorem dX3_takeBack_39 : decode cX3_takeBack 39 = .ok (.iconst 1, 1) := by decide +kernel
theorem dX3_takeBack_40 : decode cX3_takeBack 40 = .ok (.isub, 1) := by decide +kernel
theorem dX3_takeBack_41 : decode cX3_takeBack 41 = .ok (.putfield 32, 3) := by decide +kernel
theorem dX3_takeBack_44 : decode cX3_takeBack 44 = .ok (.return_, 1) := by decide +kernel
