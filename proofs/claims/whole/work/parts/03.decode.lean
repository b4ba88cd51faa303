theorem dX0_wordOf_0 : decode cX0_wordOf 0 = .ok (.iload_n 0, 1) := by decide +kernel
theorem dX0_wordOf_1 : decode cX0_wordOf 1 = .ok (.tableswitch 71 0 7 #[47, 50, 53, 56, 59, 62, 65, 68], 47) := by decide +kernel
theorem dX0_wordOf_48 : decode cX0_wordOf 48 = .ok (.ldc 7, 2) := by decide +kernel
theorem dX0_wordOf_50 : decode cX0_wordOf 50 = .ok (.areturn, 1) := by decide +kernel
theorem dX0_wordOf_51 : decode cX0_wordOf 51 = .ok (.ldc 9, 2) := by decide +kernel
theorem dX0_wordOf_53 : decode cX0_wordOf 53 = .ok (.areturn, 1) := by decide +kernel
theorem dX0_wordOf_54 : decode cX0_wordOf 54 = .ok (.ldc 11, 2) := by decide +kernel
theorem dX0_wordOf_56 : decode cX0_wordOf 56 = .ok (.areturn, 1) := by decide +kernel
theorem dX0_wordOf_57 : decode cX0_wordOf 57 = .ok (.ldc 13, 2) := by decide +kernel
theorem dX0_wordOf_59 : decode cX0_wordOf 59 = .ok (.areturn, 1) := by decide +kernel
theorem dX0_wordOf_60 : decode cX0_wordOf 60 = .ok (.ldc 15, 2) := by decide +kernel
theorem dX0_wordOf_62 : decode cX0_wordOf 62 = .ok (.areturn, 1) := by decide +kernel
theorem dX0_wordOf_63 : decode cX0_wordOf 63 = .ok (.ldc 17, 2) := by decide +kernel
theorem dX0_wordOf_65 : decode cX0_wordOf 65 = .ok (.areturn, 1) := by decide +kernel
theorem dX0_wordOf_66 : decode cX0_wordOf 66 = .ok (.ldc 19, 2) := by decide +kernel
theorem dX0_wordOf_68 : decode cX0_wordOf 68 = .ok (.areturn, 1) := by decide +kernel
theorem dX0_wordOf_69 : decode cX0_wordOf 69 = .ok (.ldc 21, 2) := by decide +kernel
theorem dX0_wordOf_71 : decode cX0_wordOf 71 = .ok (.areturn, 1) := by decide +kernel
theorem dX0_wordOf_72 : decode cX0_wordOf 72 = .ok (.ldc 23, 2) := by decide +kernel
theorem dX0_wordOf_74 : decode cX0_wordOf 74 = .ok (.areturn, 1) := by decide +kernel
theorem dX0_digitsOf_0 : decode cX0_digitsOf 0 = .ok (.iload_n 0, 1) := by decide +kernel
theorem dX0_digitsOf_1 : decode cX0_digitsOf 1 = .ok (.tableswitch 68 0 7 #[47, 50, 53, 56, 68, 59, 62, 65], 47) := by decide +kernel
theorem dX0_digitsOf_48 : decode cX0_digitsOf 48 = .ok (.ldc 25, 2) := by decide +kernel
theorem dX0_digitsOf_50 : decode cX0_digitsOf 50 = .ok (.areturn, 1) := by decide +kernel
theorem dX0_digitsOf_51 : decode cX0_digitsOf 51 = .ok (.ldc 27, 2) := by decide +kernel
theorem dX0_digitsOf_53 : decode cX0_digitsOf 53 = .ok (.areturn, 1) := by decide +kernel
theorem dX0_digitsOf_54 : decode cX0_digitsOf 54 = .ok (.ldc 29, 2) := by decide +kernel
theorem dX0_digitsOf_56 : decode cX0_digitsOf 56 = .ok (.areturn, 1) := by decide +kernel
theorem dX0_digitsOf_57 : decode cX0_digitsOf 57 = .ok (.ldc 31, 2) := by decide +kernel
theorem dX0_digitsOf_59 : decode cX0_digitsOf 59 = .ok (.areturn, 1) := by decide +kernel
theorem dX0_digitsOf_60 : decode cX0_digitsOf 60 = .ok (.ldc 33, 2) := by decide +kernel
theorem dX0_digitsOf_62 : decode cX0_digitsOf 62 = .ok (.areturn, 1) := by decide +kernel
theorem dX0_digitsOf_63 : decode cX0_digitsOf 63 = .ok (.ldc 33, 2) := by decide +kernel
theorem dX0_digitsOf_65 : decode cX0_digitsOf 65 = .ok (.areturn, 1) := by decide +kernel
theorem dX0_digitsOf_66 : decode cX0_digitsOf 66 = .ok (.ldc 33, 2) := by decide +kernel
theorem dX0_digitsOf_68 : decode cX0_digitsOf 68 = .ok (.areturn, 1) := by decide +kernel
theorem dX0_digitsOf_69 : decode cX0_digitsOf 69 = .ok (.ldc 23, 2) := by decide +kernel
theorem dX0_digitsOf_71 : decode cX0_digitsOf 71 = .ok (.areturn, 1) := by decide +kernel
theorem dX1_init_0 : decode cX1_init 0 = .ok (.aload_n 0, 1) := by decide +kernel
theorem dX1_init_1 : decode cX1_init 1 = .ok (.invokespecial 3, 3) := by decide +kernel
theorem dX1_init_4 : decode cX1_init 4 = .ok (.aload_n 0, 1) := by decide +kernel
theorem dX1_init_5 : decode cX1_init 5 = .ok (.bipush 12, 2) := by decide +kernel
theorem dX1_init_7 : decode cX1_init 7 = .ok (.newarray .int, 2) := by decide +kernel
theorem dX1_init_9 : decode cX1_init 9 = .ok (.putfield 11, 3) := by decide +kernel
theorem dX1_init_12 : decode cX1_init 12 = .ok (.aload_n 0, 1) := by decide +kernel
theorem dX1_init_13 : decode cX1_init 13 = .ok (.bipush 60, 2) := by decide +kernel
theorem dX1_init_15 : decode cX1_init 15 = .ok (.newarray .int, 2) := by decide +kernel
theorem dX1_init_17 : decode cX1_init 17 = .ok (.putfield 15, 3) := by decide +kernel
theorem dX1_init_20 : decode cX1_init 20 = .ok (.return_, 1) := by decide +kernel
theorem dX1_read_0 : decode cX1_read 0 = .ok (.aload_n 0, 1) := by decide +kernel
theorem dX1_read_1 : decode cX1_read 1 = .ok (.iconst 0, 1) := by decide +kernel
theorem dX1_read_2 : decode cX1_read 2 = .ok (.putfield 18, 3) := by decide +kernel
theorem dX1_read_5 : decode cX1_read 5 = .ok (.aload_n 0, 1) := by decide +kernel
theorem dX1_read_6 : decode cX1_read 6 = .ok (.iconst 0, 1) := by decide +kernel
theorem dX1_read_7 : decode cX1_read 7 = .ok (.putfield 22, 3) := by decide +kernel
theorem dX1_read_10 : decode cX1_read 10 = .ok (.aload_n 0, 1) := by decide +kernel
theorem dX1_read_11 : decode cX1_read 11 = .ok (.getfield 22, 3) := by decide +kernel
theorem dX1_read_14 : decode cX1_read 14 = .ok (.bipush 12, 2) := by decide +kernel
theorem dX1_read_16 : decode cX1_read 16 = .ok (.if_icmp .ge 64, 3) := by decide +kernel
theorem dX1_read_19 : decode cX1_read 19 = .ok (.aload_n 0, 1) := by decide +kernel
theorem dX1_read_20 : decode cX1_read 20 = .ok (.aload_n 1, 1) := by decide +kernel
theorem dX1_read_21 : decode cX1_read 21 = .ok (.invokevirtual 25, 3) := by decide +kernel
theorem dX1_read_24 : decode cX1_read 24 = .ok (.ifCond .ne 5, 3) := by decide +kernel
theorem dX1_read_27 : decode cX1_read 27 = .ok (.iconst 0, 1) := by decide +kernel
theorem dX1_read_28 : decode cX1_read 28 = .ok (.ireturn, 1) := by decide +kernel
theorem dX1_read_29 : decode cX1_read 29 = .ok (.aload_n 0, 1) := by decide +kernel
theorem dX1_read_30 : decode cX1_read 30 = .ok (.dup, 1) := by decide +kernel
theorem dX1_read_31 : decode cX1_read 31 = .ok (.getfield 22, 3) := by decide +kernel
theorem dX1_read_34 : decode cX1_read 34 = .ok (.iconst 1, 1) := by decide +kernel
theorem dX1_read_35 : decode cX1_read 35 = .ok (.iadd, 1) := by decide +kernel
theorem dX1_read_36 : decode cX1_read 36 = .ok (.putfield 22, 3) := by decide +kernel
theorem dX1_read_39 : decode cX1_read 39 = .ok (.aload_n 0, 1) := by decide +kernel
theorem dX1_read_40 : decode cX1_read 40 = .ok (.getfield 18, 3) := by decide +kernel
theorem dX1_read_43 : decode cX1_read 43 = .ok (.aload_n 1, 1) := by decide +kernel
theorem dX1_read_44 : decode cX1_read 44 = .ok (.invokevirtual 29, 3) := by decide +kernel
theorem dX1_read_47 : decode cX1_read 47 = .ok (.if_icmp .ne 5, 3) := by decide +kernel
theorem dX1_read_50 : decode cX1_read 50 = .ok (.iconst 1, 1) := by decide +kernel
theorem dX1_read_51 : decode cX1_read 51 = .ok (.ireturn, 1) := by decide +kernel
theorem dX1_read_52 : decode cX1_read 52 = .ok (.aload_n 1, 1) := by decide +kernel
theorem dX1_read_53 : decode cX1_read 53 = .ok (.aload_n 0, 1) := by decide +kernel
theorem dX1_read_54 : decode cX1_read 54 = .ok (.getfield 18, 3) := by decide +kernel
theorem dX1_read_57 : decode cX1_read 57 = .ok (.invokestatic 35, 3) := by decide +kernel
theorem dX1_read_60 : decode cX1_read 60 = .ok (.bipush 59, 2) := by decide +kernel
theorem dX1_read_62 : decode cX1_read 62 = .ok (.if_icmp .eq 5, 3) := by decide +kernel
theorem dX1_read_65 : decode cX1_read 65 = .ok (.iconst 0, 1) := by decide +kernel
theorem dX1_read_66 : decode cX1_read 66 = .ok (.ireturn, 1) := by decide +kernel
theorem dX1_read_67 : decode cX1_read 67 = .ok (.aload_n 0, 1) := by decide +kernel
theorem dX1_read_68 : decode cX1_read 68 = .ok (.dup, 1) := by decide +kernel
theorem dX1_read_69 : decode cX1_read 69 = .ok (.getfield 18, 3) := by decide +kernel
theorem dX1_read_72 : decode cX1_read 72 = .ok (.iconst 1, 1) := by decide +kernel
theorem dX1_read_73 : decode cX1_read 73 = .ok (.iadd, 1) := by decide +kernel
theorem dX1_read_74 : decode cX1_read 74 = .ok (.putfield 18, 3) := by decide +kernel
theorem dX1_read_77 : decode cX1_read 77 = .ok (.goto (-67), 3) := by decide +kernel
theorem dX1_read_80 : decode cX1_read 80 = .ok (.iconst 0, 1) := by decide +kernel
theorem dX1_read_81 : decode cX1_read 81 = .ok (.ireturn, 1) := by decide +kernel
theorem dX1_readCommand_0 : decode cX1_readCommand 0 = .ok (.aload_n 0, 1) := by decide +kernel
theorem dX1_readCommand_1 : decode cX1_readCommand 1 = .ok (.aload_n 1, 1) := by decide +kernel
theorem dX1_readCommand_2 : decode cX1_readCommand 2 = .ok (.invokevirtual 39, 3) := by decide +kernel
theorem dX1_readCommand_5 : decode cX1_readCommand 5 = .ok (.istore_n 2, 1) := by decide +kernel
theorem dX1_readCommand_6 : decode cX1_readCommand 6 = .ok (.iload_n 2, 1) := by decide +kernel
theorem dX1_readCommand_7 : decode cX1_readCommand 7 = .ok (.iconst (-1), 1) := by decide +kernel
theorem dX1_readCommand_8 : decode cX1_readCommand 8 = .ok (.if_icmp .ne 5, 3) := by decide +kernel
theorem dX1_readCommand_11 : decode cX1_readCommand 11 = .ok (.iconst 0, 1) := by decide +kernel
theorem dX1_readCommand_12 : decode cX1_readCommand 12 = .ok (.ireturn, 1) := by decide +kernel
theorem dX1_readCommand_13 : decode cX1_readCommand 13 = .ok (.aload_n 0, 1) := by decide +kernel
theorem dX1_readCommand_14 : decode cX1_readCommand 14 = .ok (.getfield 11, 3) := by decide +kernel
theorem dX1_readCommand_17 : decode cX1_readCommand 17 = .ok (.aload_n 0, 1) := by decide +kernel
theorem dX1_readCommand_18 : decode cX1_readCommand 18 = .ok (.getfield 22, 3) := by decide +kernel
theorem dX1_readCommand_21 : decode cX1_readCommand 21 = .ok (.iload_n 2, 1) := by decide +kernel
theorem dX1_readCommand_22 : decode cX1_readCommand 22 = .ok (.iastore, 1) := by decide +kernel
theorem dX1_readCommand_23 : decode cX1_readCommand 23 = .ok (.iload_n 2, 1) := by decide +kernel
theorem dX1_readCommand_24 : decode cX1_readCommand 24 = .ok (.invokestatic 43, 3) := by decide +kernel
theorem dX1_readCommand_27 : decode cX1_readCommand 27 = .ok (.astore_n 3, 1) := by decide +kernel
theorem dX1_readCommand_28 : decode cX1_readCommand 28 = .ok (.iconst 0, 1) := by decide +kernel
theorem dX1_readCommand_29 : decode cX1_readCommand 29 = .ok (.istore 4, 2) := by decide +kernel
theorem dX1_readCommand_31 : decode cX1_readCommand 31 = .ok (.iload 4, 2) := by decide +kernel
theorem dX1_readCommand_33 : decode cX1_readCommand 33 = .ok (.aload_n 3, 1) := by decide +kernel
theorem dX1_readCommand_34 : decode cX1_readCommand 34 = .ok (.invokevirtual 49, 3) := by decide +kernel
theorem dX1_readCommand_37 : decode cX1_readCommand 37 = .ok (.if_icmp .ge 43, 3) := by decide +kernel
theorem dX1_readCommand_40 : decode cX1_readCommand 40 = .ok (.iload 4, 2) := by decide +kernel
theorem dX1_readCommand_42 : decode cX1_readCommand 42 = .ok (.iconst 5, 1) := by decide +kernel
theorem dX1_readCommand_43 : decode cX1_readCommand 43 = .ok (.if_icmp .ge 37, 3) := by decide +kernel
theorem dX1_readCommand_46 : decode cX1_readCommand 46 = .ok (.aload_n 0, 1) := by decide +kernel
theorem dX1_readCommand_47 : decode cX1_readCommand 47 = .ok (.aload_n 1, 1) := by decide +kernel
theorem dX1_readCommand_48 : decode cX1_readCommand 48 = .ok (.aload_n 3, 1) := by decide +kernel
theorem dX1_readCommand_49 : decode cX1_readCommand 49 = .ok (.iload 4, 2) := by decide +kernel
theorem dX1_readCommand_51 : decode cX1_readCommand 51 = .ok (.invokevirtual 52, 3) := by decide +kernel
theorem dX1_readCommand_54 : decode cX1_readCommand 54 = .ok (.bipush 48, 2) := by decide +kernel
theorem dX1_readCommand_56 : decode cX1_readCommand 56 = .ok (.isub, 1) := by decide +kernel
theorem dX1_readCommand_57 : decode cX1_readCommand 57 = .ok (.aload_n 0, 1) := by decide +kernel
theorem dX1_readCommand_58 : decode cX1_readCommand 58 = .ok (.getfield 22, 3) := by decide +kernel
theorem dX1_readCommand_61 : decode cX1_readCommand 61 = .ok (.iconst 5, 1) := by decide +kernel
theorem dX1_readCommand_62 : decode cX1_readCommand 62 = .ok (.imul, 1) := by decide +kernel
theorem dX1_readCommand_63 : decode cX1_readCommand 63 = .ok (.iload 4, 2) := by decide +kernel
theorem dX1_readCommand_65 : decode cX1_readCommand 65 = .ok (.iadd, 1) := by decide +kernel
theorem dX1_readCommand_66 : decode cX1_readCommand 66 = .ok (.invokevirtual 56, 3) := by decide +kernel
theorem dX1_readCommand_69 : decode cX1_readCommand 69 = .ok (.ifCond .ne 5, 3) := by decide +kernel
theorem dX1_readCommand_72 : decode cX1_readCommand 72 = .ok (.iconst 0, 1) := by decide +kernel
theorem dX1_readCommand_73 : decode cX1_readCommand 73 = .ok (.ireturn, 1) := by decide +kernel
theorem dX1_readCommand_74 : decode cX1_readCommand 74 = .ok (.iinc 4 1, 3) := by decide +kernel
theorem dX1_readCommand_77 : decode cX1_readCommand 77 = .ok (.goto (-46), 3) := by decide +kernel
theorem dX1_readCommand_80 : decode cX1_readCommand 80 = .ok (.iconst 1, 1) := by decide +kernel
theorem dX1_readCommand_81 : decode cX1_readCommand 81 = .ok (.ireturn, 1) := by decide +kernel
theorem dX1_readWord_0 : decode cX1_readWord 0 = .ok (.iconst (-1), 1) := by decide +kernel
theorem dX1_readWord_1 : decode cX1_readWord 1 = .ok (.istore_n 2, 1) := by decide +kernel
theorem dX1_readWord_2 : decode cX1_readWord 2 = .ok (.iconst 0, 1) := by decide +kernel
theorem dX1_readWord_3 : decode cX1_readWord 3 = .ok (.istore_n 3, 1) := by decide +kernel
theorem dX1_readWord_4 : decode cX1_readWord 4 = .ok (.iconst 0, 1) := by decide +kernel
theorem dX1_readWord_5 : decode cX1_readWord 5 = .ok (.istore 4, 2) := by decide +kernel
theorem dX1_readWord_7 : decode cX1_readWord 7 = .ok (.iconst 0, 1) := by decide +kernel
theorem dX1_readWord_8 : decode cX1_readWord 8 = .ok (.istore 5, 2) := by decide +kernel
theorem dX1_readWord_10 : decode cX1_readWord 10 = .ok (.iload 5, 2) := by decide +kernel
theorem dX1_readWord_12 : decode cX1_readWord 12 = .ok (.bipush 8, 2) := by decide +kernel
theorem dX1_readWord_14 : decode cX1_readWord 14 = .ok (.if_icmp .ge 56, 3) := by decide +kernel
theorem dX1_readWord_17 : decode cX1_readWord 17 = .ok (.iload 5, 2) := by decide +kernel
theorem dX1_readWord_19 : decode cX1_readWord 19 = .ok (.invokestatic 60, 3) := by decide +kernel
theorem dX1_readWord_22 : decode cX1_readWord 22 = .ok (.astore 6, 2) := by decide +kernel
theorem dX1_readWord_24 : decode cX1_readWord 24 = .ok (.aload_n 0, 1) := by decide +kernel
theorem dX1_readWord_25 : decode cX1_readWord 25 = .ok (.aload_n 1, 1) := by decide +kernel
theorem dX1_readWord_26 : decode cX1_readWord 26 = .ok (.aload 6, 2) := by decide +kernel
theorem dX1_readWord_28 : decode cX1_readWord 28 = .ok (.invokevirtual 63, 3) := by decide +kernel
theorem dX1_readWord_31 : decode cX1_readWord 31 = .ok (.istore 7, 2) := by decide +kernel
theorem dX1_readWord_33 : decode cX1_readWord 33 = .ok (.iload 4, 2) := by decide +kernel
theorem dX1_readWord_35 : decode cX1_readWord 35 = .ok (.iload 7, 2) := by decide +kernel
theorem dX1_readWord_37 : decode cX1_readWord 37 = .ok (.invokestatic 67, 3) := by decide +kernel
theorem dX1_readWord_40 : decode cX1_readWord 40 = .ok (.istore 4, 2) := by decide +kernel
theorem dX1_readWord_42 : decode cX1_readWord 42 = .ok (.iload 7, 2) := by decide +kernel
theorem dX1_readWord_44 : decode cX1_readWord 44 = .ok (.aload 6, 2) := by decide +kernel
theorem dX1_readWord_46 : decode cX1_readWord 46 = .ok (.invokevirtual 49, 3) := by decide +kernel
theorem dX1_readWord_49 : decode cX1_readWord 49 = .ok (.if_icmp .ne 15, 3) := by decide +kernel
theorem dX1_readWord_52 : decode cX1_readWord 52 = .ok (.iload 7, 2) := by decide +kernel
theorem dX1_readWord_54 : decode cX1_readWord 54 = .ok (.iload_n 3, 1) := by decide +kernel
theorem dX1_readWord_55 : decode cX1_readWord 55 = .ok (.if_icmp .le 9, 3) := by decide +kernel
theorem dX1_readWord_58 : decode cX1_readWord 58 = .ok (.iload 5, 2) := by decide +kernel
theorem dX1_readWord_60 : decode cX1_readWord 60 = .ok (.istore_n 2, 1) := by decide +kernel
theorem dX1_readWord_61 : decode cX1_readWord 61 = .ok (.iload 7, 2) := by decide +kernel
theorem dX1_readWord_63 : decode cX1_readWord 63 = .ok (.istore_n 3, 1) := by decide +kernel
theorem dX1_readWord_64 : decode cX1_readWord 64 = .ok (.iinc 5 1, 3) := by decide +kernel
theorem dX1_readWord_67 : decode cX1_readWord 67 = .ok (.goto (-57), 3) := by decide +kernel
theorem dX1_readWord_70 : decode cX1_readWord 70 = .ok (.aload_n 0, 1) := by decide +kernel
theorem dX1_readWord_71 : decode cX1_readWord 71 = .ok (.dup, 1) := by decide +kernel
theorem dX1_readWord_72 : decode cX1_readWord 72 = .ok (.getfield 18, 3) := by decide +kernel
theorem dX1_readWord_75 : decode cX1_readWord 75 = .ok (.iload 4, 2) := by decide +kernel
theorem dX1_readWord_77 : decode cX1_readWord 77 = .ok (.iadd, 1) := by decide +kernel
theorem dX1_readWord_78 : decode cX1_readWord 78 = .ok (.putfield 18, 3) := by decide +kernel
theorem dX1_readWord_81 : decode cX1_readWord 81 = .ok (.iload_n 2, 1) := by decide +kernel
theorem dX1_readWord_82 : decode cX1_readWord 82 = .ok (.ireturn, 1) := by decide +kernel
theorem dX1_commonLength_0 : decode cX1_commonLength 0 = .ok (.iconst 0, 1) := by decide +kernel
theorem dX1_commonLength_1 : decode cX1_commonLength 1 = .ok (.istore_n 3, 1) := by decide +kernel
theorem dX1_commonLength_2 : decode cX1_commonLength 2 = .ok (.iload_n 3, 1) := by decide +kernel
theorem dX1_commonLength_3 : decode cX1_commonLength 3 = .ok (.aload_n 2, 1) := by decide +kernel
theorem dX1_commonLength_4 : decode cX1_commonLength 4 = .ok (.invokevirtual 49, 3) := by decide +kernel
theorem dX1_commonLength_7 : decode cX1_commonLength 7 = .ok (.if_icmp .ge 27, 3) := by decide +kernel
theorem dX1_commonLength_10 : decode cX1_commonLength 10 = .ok (.aload_n 1, 1) := by decide +kernel
theorem dX1_commonLength_11 : decode cX1_commonLength 11 = .ok (.aload_n 0, 1) := by decide +kernel
theorem dX1_commonLength_12 : decode cX1_commonLength 12 = .ok (.getfield 18, 3) := by decide +kernel
theorem dX1_commonLength_15 : decode cX1_commonLength 15 = .ok (.iload_n 3, 1) := by decide +kernel
theorem dX1_commonLength_16 : decode cX1_commonLength 16 = .ok (.iadd, 1) := by decide +kernel
theorem dX1_commonLength_17 : decode cX1_commonLength 17 = .ok (.invokestatic 35, 3) := by decide +kernel
theorem dX1_commonLength_20 : decode cX1_commonLength 20 = .ok (.aload_n 2, 1) := by decide +kernel
theorem dX1_commonLength_21 : decode cX1_commonLength 21 = .ok (.iload_n 3, 1) := by decide +kernel
theorem dX1_commonLength_22 : decode cX1_commonLength 22 = .ok (.invokevirtual 52, 3) := by decide +kernel
theorem dX1_commonLength_25 : decode cX1_commonLength 25 = .ok (.if_icmp .ne 9, 3) := by decide +kernel
theorem dX1_commonLength_28 : decode cX1_commonLength 28 = .ok (.iinc 3 1, 3) := by decide +kernel
theorem dX1_commonLength_31 : decode cX1_commonLength 31 = .ok (.goto (-29), 3) := by decide +kernel
theorem dX1_commonLength_34 : decode cX1_commonLength 34 = .ok (.iload_n 3, 1) := by decide +kernel
theorem dX1_commonLength_35 : decode cX1_commonLength 35 = .ok (.ireturn, 1) := by decide +kernel
theorem dX1_readNumber_0 : decode cX1_readNumber 0 = .ok (.aload_n 1, 1) := by decide +kernel
theorem dX1_readNumber_1 : decode cX1_readNumber 1 = .ok (.aload_n 0, 1) := by decide +kernel
theorem dX1_readNumber_2 : decode cX1_readNumber 2 = .ok (.getfield 18, 3) := by decide +kernel
theorem dX1_readNumber_5 : decode cX1_readNumber 5 = .ok (.invokestatic 35, 3) := by decide +kernel
theorem dX1_readNumber_8 : decode cX1_readNumber 8 = .ok (.bipush 32, 2) := by decide +kernel
theorem dX1_readNumber_10 : decode cX1_readNumber 10 = .ok (.if_icmp .eq 5, 3) := by decide +kernel
theorem dX1_readNumber_13 : decode cX1_readNumber 13 = .ok (.iconst 0, 1) := by decide +kernel
theorem dX1_readNumber_14 : decode cX1_readNumber 14 = .ok (.ireturn, 1) := by decide +kernel
theorem dX1_readNumber_15 : decode cX1_readNumber 15 = .ok (.aload_n 0, 1) := by decide +kernel
theorem dX1_readNumber_16 : decode cX1_readNumber 16 = .ok (.dup, 1) := by decide +kernel
theorem dX1_readNumber_17 : decode cX1_readNumber 17 = .ok (.getfield 18, 3) := by decide +kernel
theorem dX1_readNumber_20 : decode cX1_readNumber 20 = .ok (.iconst 1, 1) := by decide +kernel
theorem dX1_readNumber_21 : decode cX1_readNumber 21 = .ok (.iadd, 1) := by decide +kernel
theorem dX1_readNumber_22 : decode cX1_readNumber 22 = .ok (.putfield 18, 3) := by decide +kernel
theorem dX1_readNumber_25 : decode cX1_readNumber 25 = .ok (.iconst 0, 1) := by decide +kernel
theorem dX1_readNumber_26 : decode cX1_readNumber 26 = .ok (.istore 4, 2) := by decide +kernel
theorem dX1_readNumber_28 : decode cX1_readNumber 28 = .ok (.iconst 0, 1) := by decide +kernel
theorem dX1_readNumber_29 : decode cX1_readNumber 29 = .ok (.istore 5, 2) := by decide +kernel
theorem dX1_readNumber_31 : decode cX1_readNumber 31 = .ok (.iload 5, 2) := by decide +kernel
theorem dX1_readNumber_33 : decode cX1_readNumber 33 = .ok (.iload_n 2, 1) := by decide +kernel
theorem dX1_readNumber_34 : decode cX1_readNumber 34 = .ok (.if_icmp .ge 52, 3) := by decide +kernel
theorem dX1_readNumber_37 : decode cX1_readNumber 37 = .ok (.aload_n 1, 1) := by decide +kernel
theorem dX1_readNumber_38 : decode cX1_readNumber 38 = .ok (.aload_n 0, 1) := by decide +kernel
theorem dX1_readNumber_39 : decode cX1_readNumber 39 = .ok (.getfield 18, 3) := by decide +kernel
theorem dX1_readNumber_42 : decode cX1_readNumber 42 = .ok (.invokestatic 35, 3) := by decide +kernel
theorem dX1_readNumber_45 : decode cX1_readNumber 45 = .ok (.invokestatic 73, 3) := by decide +kernel
theorem dX1_readNumber_48 : decode cX1_readNumber 48 = .ok (.ifCond .eq 38, 3) := by decide +kernel
theorem dX1_readNumber_51 : decode cX1_readNumber 51 = .ok (.iload 4, 2) := by decide +kernel
theorem dX1_readNumber_53 : decode cX1_readNumber 53 = .ok (.bipush 10, 2) := by decide +kernel
theorem dX1_readNumber_55 : decode cX1_readNumber 55 = .ok (.imul, 1) := by decide +kernel
theorem dX1_readNumber_56 : decode cX1_readNumber 56 = .ok (.aload_n 1, 1) := by decide +kernel
theorem dX1_readNumber_57 : decode cX1_readNumber 57 = .ok (.aload_n 0, 1) := by decide +kernel
theorem dX1_readNumber_58 : decode cX1_readNumber 58 = .ok (.getfield 18, 3) := by decide +kernel
theorem dX1_readNumber_61 : decode cX1_readNumber 61 = .ok (.invokestatic 35, 3) := by decide +kernel
theorem dX1_readNumber_64 : decode cX1_readNumber 64 = .ok (.bipush 48, 2) := by decide +kernel
theorem dX1_readNumber_66 : decode cX1_readNumber 66 = .ok (.isub, 1) := by decide +kernel
theorem dX1_readNumber_67 : decode cX1_readNumber 67 = .ok (.iadd, 1) := by decide +kernel
theorem dX1_readNumber_68 : decode cX1_readNumber 68 = .ok (.istore 4, 2) := by decide +kernel
theorem dX1_readNumber_70 : decode cX1_readNumber 70 = .ok (.aload_n 0, 1) := by decide +kernel
theorem dX1_readNumber_71 : decode cX1_readNumber 71 = .ok (.dup, 1) := by decide +kernel
theorem dX1_readNumber_72 : decode cX1_readNumber 72 = .ok (.getfield 18, 3) := by decide +kernel
theorem dX1_readNumber_75 : decode cX1_readNumber 75 = .ok (.iconst 1, 1) := by decide +kernel
theorem dX1_readNumber_76 : decode cX1_readNumber 76 = .ok (.iadd, 1) := by decide +kernel
theorem dX1_readNumber_77 : decode cX1_readNumber 77 = .ok (.putfield 18, 3) := by decide +kernel
theorem dX1_readNumber_80 : decode cX1_readNumber 80 = .ok (.iinc 5 1, 3) := by decide +kernel
theorem dX1_readNumber_83 : decode cX1_readNumber 83 = .ok (.goto (-52), 3) := by decide +kernel
theorem dX1_readNumber_86 : decode cX1_readNumber 86 = .ok (.iload_n 3, 1) := by decide +kernel
theorem dX1_readNumber_87 : decode cX1_readNumber 87 = .ok (.aload_n 0, 1) := by decide +kernel
theorem dX1_readNumber_88 : decode cX1_readNumber 88 = .ok (.getfield 15, 3) := by decide +kernel
theorem dX1_readNumber_91 : decode cX1_readNumber 91 = .ok (.arraylength, 1) := by decide +kernel
theorem dX1_readNumber_92 : decode cX1_readNumber 92 = .ok (.invokestatic 77, 3) := by decide +kernel
theorem dX1_readNumber_95 : decode cX1_readNumber 95 = .ok (.ifCond .eq 11, 3) := by decide +kernel
theorem dX1_readNumber_98 : decode cX1_readNumber 98 = .ok (.aload_n 0, 1) := by decide +kernel
theorem dX1_readNumber_99 : decode cX1_readNumber 99 = .ok (.getfield 15, 3) := by decide +kernel
theorem dX1_readNumber_102 : decode cX1_readNumber 102 = .ok (.iload_n 3, 1) := by decide +kernel
theorem dX1_readNumber_103 : decode cX1_readNumber 103 = .ok (.iload 4, 2) := by decide +kernel
theorem dX1_readNumber_105 : decode cX1_readNumber 105 = .ok (.iastore, 1) := by decide +kernel
theorem dX1_readNumber_106 : decode cX1_readNumber 106 = .ok (.iload 5, 2) := by decide +kernel
theorem dX1_readNumber_108 : decode cX1_readNumber 108 = .ok (.ifCond .le 7, 3) := by decide +kernel
theorem dX1_readNumber_111 : decode cX1_readNumber 111 = .ok (.iconst 1, 1) := by decide +kernel
theorem dX1_readNumber_112 : decode cX1_readNumber 112 = .ok (.goto 4, 3) := by decide +kernel
theorem dX1_readNumber_115 : decode cX1_readNumber 115 = .ok (.iconst 0, 1) := by decide +kernel
theorem dX1_readNumber_116 : decode cX1_readNumber 116 = .ok (.ireturn, 1) := by decide +kernel
theorem dX1_commandAt_0 : decode cX1_commandAt 0 = .ok (.iload_n 1, 1) := by decide +kernel
theorem dX1_commandAt_1 : decode cX1_commandAt 1 = .ok (.aload_n 0, 1) := by decide +kernel
theorem dX1_commandAt_2 : decode cX1_commandAt 2 = .ok (.getfield 22, 3) := by decide +kernel
theorem dX1_commandAt_5 : decode cX1_commandAt 5 = .ok (.invokestatic 77, 3) := by decide +kernel
theorem dX1_commandAt_8 : decode cX1_commandAt 8 = .ok (.ifCond .eq 12, 3) := by decide +kernel
theorem dX1_commandAt_11 : decode cX1_commandAt 11 = .ok (.aload_n 0, 1) := by decide +kernel
theorem dX1_commandAt_12 : decode cX1_commandAt 12 = .ok (.getfield 11, 3) := by decide +kernel
theorem dX1_commandAt_15 : decode cX1_commandAt 15 = .ok (.iload_n 1, 1) := by decide +kernel
theorem dX1_commandAt_16 : decode cX1_commandAt 16 = .ok (.iaload, 1) := by decide +kernel
theorem dX1_commandAt_17 : decode cX1_commandAt 17 = .ok (.goto 4, 3) := by decide +kernel
theorem dX1_commandAt_20 : decode cX1_commandAt 20 = .ok (.iconst (-1), 1) := by decide +kernel
theorem dX1_commandAt_21 : decode cX1_commandAt 21 = .ok (.ireturn, 1) := by decide +kernel
theorem dX1_argumentAt_0 : decode cX1_argumentAt 0 = .ok (.iload_n 1, 1) := by decide +kernel
theorem dX1_argumentAt_1 : decode cX1_argumentAt 1 = .ok (.iconst 5, 1) := by decide +kernel
theorem dX1_argumentAt_2 : decode cX1_argumentAt 2 = .ok (.imul, 1) := by decide +kernel
theorem dX1_argumentAt_3 : decode cX1_argumentAt 3 = .ok (.iload_n 2, 1) := by decide +kernel
theorem dX1_argumentAt_4 : decode cX1_argumentAt 4 = .ok (.iadd, 1) := by decide +kernel
theorem dX1_argumentAt_5 : decode cX1_argumentAt 5 = .ok (.istore_n 3, 1) := by decide +kernel
theorem dX1_argumentAt_6 : decode cX1_argumentAt 6 = .ok (.iload_n 3, 1) := by decide +kernel
theorem dX1_argumentAt_7 : decode cX1_argumentAt 7 = .ok (.aload_n 0, 1) := by decide +kernel
theorem dX1_argumentAt_8 : decode cX1_argumentAt 8 = .ok (.getfield 15, 3) := by decide +kernel
theorem dX1_argumentAt_11 : decode cX1_argumentAt 11 = .ok (.arraylength, 1) := by decide +kernel
theorem dX1_argumentAt_12 : decode cX1_argumentAt 12 = .ok (.invokestatic 77, 3) := by decide +kernel
theorem dX1_argumentAt_15 : decode cX1_argumentAt 15 = .ok (.ifCond .eq 12, 3) := by decide +kernel
theorem dX1_argumentAt_18 : decode cX1_argumentAt 18 = .ok (.aload_n 0, 1) := by decide +kernel
theorem dX1_argumentAt_19 : decode cX1_argumentAt 19 = .ok (.getfield 15, 3) := by decide +kernel
theorem dX1_argumentAt_22 : decode cX1_argumentAt 22 = .ok (.iload_n 3, 1) := by decide +kernel
theorem dX1_argumentAt_23 : decode cX1_argumentAt 23 = .ok (.iaload, 1) := by decide +kernel
theorem dX1_argumentAt_24 : decode cX1_argumentAt 24 = .ok (.goto 4, 3) := by decide +kernel
theorem dX1_argumentAt_27 : decode cX1_argumentAt 27 = .ok (.iconst 0, 1) := by decide +kernel
theorem dX1_argumentAt_28 : decode cX1_argumentAt 28 = .ok (.ireturn, 1) := by decide +kernel
theorem dX1_isDigit_0 : decode cX1_isDigit 0 = .ok (.iload_n 0, 1) := by decide +kernel
theorem dX1_isDigit_1 : decode cX1_isDigit 1 = .ok (.bipush 48, 2) := by decide +kernel
theorem dX1_isDigit_3 : decode cX1_isDigit 3 = .ok (.if_icmp .lt 13, 3) := by decide +kernel
theorem dX1_isDigit_6 : decode cX1_isDigit 6 = .ok (.iload_n 0, 1) := by decide +kernel
theorem dX1_isDigit_7 : decode cX1_isDigit 7 = .ok (.bipush 57, 2) := by decide +kernel
theorem dX1_isDigit_9 : decode cX1_isDigit 9 = .ok (.if_icmp .gt 7, 3) := by decide +kernel
theorem dX1_isDigit_12 : decode cX1_isDigit 12 = .ok (.iconst 1, 1) := by decide +kernel
theorem dX1_isDigit_13 : decode cX1_isDigit 13 = .ok (.goto 4, 3) := by decide +kernel
theorem dX1_isDigit_16 : decode cX1_isDigit 16 = .ok (.iconst 0, 1) := by decide +kernel
theorem dX1_isDigit_17 : decode cX1_isDigit 17 = .ok (.ireturn, 1) := by decide +kernel
theorem dX1_signAt_0 : decode cX1_signAt 0 = .ok (.iload_n 1, 1) := by decide +kernel
theorem dX1_signAt_1 : decode cX1_signAt 1 = .ok (.aload_n 0, 1) := by decide +kernel
theorem dX1_signAt_2 : decode cX1_signAt 2 = .ok (.invokevirtual 29, 3) := by decide +kernel
theorem dX1_signAt_5 : decode cX1_signAt 5 = .ok (.invokestatic 77, 3) := by decide +kernel
theorem dX1_signAt_8 : decode cX1_signAt 8 = .ok (.ifCond .eq 11, 3) := by decide +kernel
theorem dX1_signAt_11 : decode cX1_signAt 11 = .ok (.aload_n 0, 1) := by decide +kernel
theorem dX1_signAt_12 : decode cX1_signAt 12 = .ok (.iload_n 1, 1) := by decide +kernel
theorem dX1_signAt_13 : decode cX1_signAt 13 = .ok (.invokevirtual 81, 3) := by decide +kernel
theorem dX1_signAt_16 : decode cX1_signAt 16 = .ok (.goto 4, 3) := by decide +kernel
theorem dX1_signAt_19 : decode cX1_signAt 19 = .ok (.iconst 0, 1) := by decide +kernel
theorem dX1_signAt_20 : decode cX1_signAt 20 = .ok (.ireturn, 1) := by decide +kernel
theorem dX3_init_0 : decode cX3_init 0 = .ok (.aload_n 0, 1) := by decide +kernel
theorem dX3_init_1 : decode cX3_init 1 = .ok (.invokespecial 3, 3) := by decide +kernel
theorem dX3_init_4 : decode cX3_init 4 = .ok (.aload_n 0, 1) := by decide +kernel
theorem dX3_init_5 : decode cX3_init 5 = .ok (.bipush 8, 2) := by decide +kernel
theorem dX3_init_7 : decode cX3_init 7 = .ok (.anewarray 9, 3) := by decide +kernel
theorem dX3_init_10 : decode cX3_init 10 = .ok (.putfield 11, 3) := by decide +kernel
theorem dX3_init_13 : decode cX3_init 13 = .ok (.iconst 0, 1) := by decide +kernel
theorem dX3_init_14 : decode cX3_init 14 = .ok (.istore_n 1, 1) := by decide +kernel
theorem dX3_init_15 : decode cX3_init 15 = .ok (.iload_n 1, 1) := by decide +kernel
theorem dX3_init_16 : decode cX3_init 16 = .ok (.bipush 8, 2) := by decide +kernel
theorem dX3_init_18 : decode cX3_init 18 = .ok (.if_icmp .ge 22, 3) := by decide +kernel
theorem dX3_init_21 : decode cX3_init 21 = .ok (.aload_n 0, 1) := by decide +kernel
theorem dX3_init_22 : decode cX3_init 22 = .ok (.getfield 11, 3) := by decide +kernel
theorem dX3_init_25 : decode cX3_init 25 = .ok (.iload_n 1, 1) := by decide +kernel
theorem dX3_init_26 : decode cX3_init 26 = .ok (.new 9, 3) := by decide +kernel
theorem dX3_init_29 : decode cX3_init 29 = .ok (.dup, 1) := by decide +kernel
theorem dX3_init_30 : decode cX3_init 30 = .ok (.invokespecial 17, 3) := by decide +kernel
theorem dX3_init_33 : decode cX3_init 33 = .ok (.aastore, 1) := by decide +kernel
theorem dX3_init_34 : decode cX3_init 34 = .ok (.iinc 1 1, 3) := by decide +kernel
theorem dX3_init_37 : decode cX3_init 37 = .ok (.goto (-22), 3) := by decide +kernel
theorem dX3_init_40 : decode cX3_init 40 = .ok (.return_, 1) := by decide +kernel
theorem dX3_keep_0 : decode cX3_keep 0 = .ok (.aload_n 0, 1) := by decide +kernel
theorem dX3_keep_1 : decode cX3_keep 1 = .ok (.getfield 11, 3) := by decide +kernel
theorem dX3_keep_4 : decode cX3_keep 4 = .ok (.aload_n 0, 1) := by decide +kernel
theorem dX3_keep_5 : decode cX3_keep 5 = .ok (.getfield 18, 3) := by decide +kernel
theorem dX3_keep_8 : decode cX3_keep 8 = .ok (.bipush 8, 2) := by decide +kernel
theorem dX3_keep_10 : decode cX3_keep 10 = .ok (.invokestatic 22, 3) := by decide +kernel
theorem dX3_keep_13 : decode cX3_keep 13 = .ok (.aaload, 1) := by decide +kernel
theorem dX3_keep_14 : decode cX3_keep 14 = .ok (.astore_n 2, 1) := by decide +kernel
theorem dX3_keep_15 : decode cX3_keep 15 = .ok (.aload_n 2, 1) := by decide +kernel
theorem dX3_keep_16 : decode cX3_keep 16 = .ok (.ifnull 8, 3) := by decide +kernel
theorem dX3_keep_19 : decode cX3_keep 19 = .ok (.aload_n 2, 1) := by decide +kernel
theorem dX3_keep_20 : decode cX3_keep 20 = .ok (.aload_n 1, 1) := by decide +kernel
theorem dX3_keep_21 : decode cX3_keep 21 = .ok (.invokevirtual 28, 3) := by decide +kernel
theorem dX3_keep_24 : decode cX3_keep 24 = .ok (.aload_n 0, 1) := by decide +kernel
theorem dX3_keep_25 : decode cX3_keep 25 = .ok (.aload_n 0, 1) := by decide +kernel
theorem dX3_keep_26 : decode cX3_keep 26 = .ok (.getfield 18, 3) := by decide +kernel
theorem dX3_keep_29 : decode cX3_keep 29 = .ok (.iconst 1, 1) := by decide +kernel
theorem dX3_keep_30 : decode cX3_keep 30 = .ok (.iadd, 1) := by decide +kernel
theorem dX3_keep_31 : decode cX3_keep 31 = .ok (.bipush 8, 2) := by decide +kernel
theorem dX3_keep_33 : decode cX3_keep 33 = .ok (.invokestatic 22, 3) := by decide +kernel
theorem dX3_keep_36 : decode cX3_keep 36 = .ok (.putfield 18, 3) := by decide +kernel
theorem dX3_keep_39 : decode cX3_keep 39 = .ok (.aload_n 0, 1) := by decide +kernel
theorem dX3_keep_40 : decode cX3_keep 40 = .ok (.aload_n 0, 1) := by decide +kernel
theorem dX3_keep_41 : decode cX3_keep 41 = .ok (.getfield 32, 3) := by decide +kernel
theorem dX3_keep_44 : decode cX3_keep 44 = .ok (.iconst 1, 1) := by decide +kernel
theorem dX3_keep_45 : decode cX3_keep 45 = .ok (.iadd, 1) := by decide +kernel
theorem dX3_keep_46 : decode cX3_keep 46 = .ok (.bipush 8, 2) := by decide +kernel
theorem dX3_keep_48 : decode cX3_keep 48 = .ok (.invokestatic 35, 3) := by decide +kernel
theorem dX3_keep_51 : decode cX3_keep 51 = .ok (.putfield 32, 3) := by decide +kernel
theorem dX3_keep_54 : decode cX3_keep 54 = .ok (.return_, 1) := by decide +kernel
theorem dX3_takeBack_0 : decode cX3_takeBack 0 = .ok (.aload_n 0, 1) := by decide +kernel
theorem dX3_takeBack_1 : decode cX3_takeBack 1 = .ok (.aload_n 0, 1) := by decide +kernel
theorem dX3_takeBack_2 : decode cX3_takeBack 2 = .ok (.getfield 18, 3) := by decide +kernel
theorem dX3_takeBack_5 : decode cX3_takeBack 5 = .ok (.iconst 1, 1) := by decide +kernel
theorem dX3_takeBack_6 : decode cX3_takeBack 6 = .ok (.isub, 1) := by decide +kernel
theorem dX3_takeBack_7 : decode cX3_takeBack 7 = .ok (.bipush 8, 2) := by decide +kernel
theorem dX3_takeBack_9 : decode cX3_takeBack 9 = .ok (.invokestatic 22, 3) := by decide +kernel
theorem dX3_takeBack_12 : decode cX3_takeBack 12 = .ok (.putfield 18, 3) := by decide +kernel
theorem dX3_takeBack_15 : decode cX3_takeBack 15 = .ok (.aload_n 0, 1) := by decide +kernel
theorem dX3_takeBack_16 : decode cX3_takeBack 16 = .ok (.getfield 11, 3) := by decide +kernel
theorem dX3_takeBack_19 : decode cX3_takeBack 19 = .ok (.aload_n 0, 1) := by decide +kernel
theorem dX3_takeBack_20 : decode cX3_takeBack 20 = .ok (.getfield 18, 3) := by decide +kernel
theorem dX3_takeBack_23 : decode cX3_takeBack 23 = .ok (.aaload, 1) := by decide +kernel
theorem dX3_takeBack_24 : decode cX3_takeBack 24 = .ok (.astore_n 2, 1) := by decide +kernel
theorem dX3_takeBack_25 : decode cX3_takeBack 25 = .ok (.aload_n 2, 1) := by decide +kernel
theorem dX3_takeBack_26 : decode cX3_takeBack 26 = .ok (.ifnull 8, 3) := by decide +kernel
theorem dX3_takeBack_29 : decode cX3_takeBack 29 = .ok (.aload_n 1, 1) := by decide +kernel
theorem dX3_takeBack_30 : decode cX3_takeBack 30 = .ok (.aload_n 2, 1) := by decide +kernel
theorem dX3_takeBack_31 : decode cX3_takeBack 31 = .ok (.invokevirtual 28, 3) := by decide +kernel
theorem dX3_takeBack_34 : decode cX3_takeBack 34 = .ok (.aload_n 0, 1) := by decide +kernel
theorem dX3_takeBack_35 : decode cX3_takeBack 35 = .ok (.dup, 1) := by decide +kernel
theorem dX3_takeBack_36 : decode cX3_takeBack 36 = .ok (.getfield 32, 3) := by decide +kernel
theorem dX3_takeBack_39 : decode cX3_takeBack 39 = .ok (.iconst 1, 1) := by decide +kernel
theorem dX3_takeBack_40 : decode cX3_takeBack 40 = .ok (.isub, 1) := by decide +kernel
theorem dX3_takeBack_41 : decode cX3_takeBack 41 = .ok (.putfield 32, 3) := by decide +kernel
theorem dX3_takeBack_44 : decode cX3_takeBack 44 = .ok (.return_, 1) := by decide +kernel
theorem dX4_init_0 : decode cX4_init 0 = .ok (.aload_n 0, 1) := by decide +kernel
theorem dX4_init_1 : decode cX4_init 1 = .ok (.invokespecial 3, 3) := by decide +kernel
theorem dX4_init_4 : decode cX4_init 4 = .ok (.aload_n 0, 1) := by decide +kernel
theorem dX4_init_5 : decode cX4_init 5 = .ok (.iconst 4, 1) := by decide +kernel
theorem dX4_init_6 : decode cX4_init 6 = .ok (.newarray .int, 2) := by decide +kernel
theorem dX4_init_8 : decode cX4_init 8 = .ok (.putfield 9, 3) := by decide +kernel
theorem dX4_init_11 : decode cX4_init 11 = .ok (.aload_n 0, 1) := by decide +kernel
theorem dX4_init_12 : decode cX4_init 12 = .ok (.iconst 4, 1) := by decide +kernel
theorem dX4_init_13 : decode cX4_init 13 = .ok (.newarray .int, 2) := by decide +kernel
theorem dX4_init_15 : decode cX4_init 15 = .ok (.putfield 15, 3) := by decide +kernel
theorem dX4_init_18 : decode cX4_init 18 = .ok (.aload_n 0, 1) := by decide +kernel
theorem dX4_init_19 : decode cX4_init 19 = .ok (.iconst 4, 1) := by decide +kernel
theorem dX4_init_20 : decode cX4_init 20 = .ok (.newarray .int, 2) := by decide +kernel
theorem dX4_init_22 : decode cX4_init 22 = .ok (.putfield 18, 3) := by decide +kernel
theorem dX4_init_25 : decode cX4_init 25 = .ok (.aload_n 0, 1) := by decide +kernel
theorem dX4_init_26 : decode cX4_init 26 = .ok (.bipush 6, 2) := by decide +kernel
theorem dX4_init_28 : decode cX4_init 28 = .ok (.newarray .int, 2) := by decide +kernel
theorem dX4_init_30 : decode cX4_init 30 = .ok (.putfield 21, 3) := by decide +kernel
theorem dX4_init_33 : decode cX4_init 33 = .ok (.aload_n 0, 1) := by decide +kernel
theorem dX4_init_34 : decode cX4_init 34 = .ok (.bipush 6, 2) := by decide +kernel
theorem dX4_init_36 : decode cX4_init 36 = .ok (.newarray .int, 2) := by decide +kernel
theorem dX4_init_38 : decode cX4_init 38 = .ok (.putfield 24, 3) := by decide +kernel
theorem dX4_init_41 : decode cX4_init 41 = .ok (.aload_n 0, 1) := by decide +kernel
theorem dX4_init_42 : decode cX4_init 42 = .ok (.bipush 20, 2) := by decide +kernel
theorem dX4_init_44 : decode cX4_init 44 = .ok (.newarray .int, 2) := by decide +kernel
theorem dX4_init_46 : decode cX4_init 46 = .ok (.putfield 27, 3) := by decide +kernel
theorem dX4_init_49 : decode cX4_init 49 = .ok (.aload_n 0, 1) := by decide +kernel
theorem dX4_init_50 : decode cX4_init 50 = .ok (.bipush 20, 2) := by decide +kernel
theorem dX4_init_52 : decode cX4_init 52 = .ok (.newarray .int, 2) := by decide +kernel
theorem dX4_init_54 : decode cX4_init 54 = .ok (.putfield 30, 3) := by decide +kernel
theorem dX4_init_57 : decode cX4_init 57 = .ok (.aload_n 0, 1) := by decide +kernel
theorem dX4_init_58 : decode cX4_init 58 = .ok (.bipush 20, 2) := by decide +kernel
theorem dX4_init_60 : decode cX4_init 60 = .ok (.newarray .int, 2) := by decide +kernel
theorem dX4_init_62 : decode cX4_init 62 = .ok (.putfield 33, 3) := by decide +kernel
theorem dX4_init_65 : decode cX4_init 65 = .ok (.aload_n 0, 1) := by decide +kernel
theorem dX4_init_66 : decode cX4_init 66 = .ok (.bipush 20, 2) := by decide +kernel
theorem dX4_init_68 : decode cX4_init 68 = .ok (.newarray .int, 2) := by decide +kernel
theorem dX4_init_70 : decode cX4_init 70 = .ok (.putfield 36, 3) := by decide +kernel
theorem dX4_init_73 : decode cX4_init 73 = .ok (.aload_n 0, 1) := by decide +kernel
theorem dX4_init_74 : decode cX4_init 74 = .ok (.bipush 20, 2) := by decide +kernel
theorem dX4_init_76 : decode cX4_init 76 = .ok (.newarray .int, 2) := by decide +kernel
theorem dX4_init_78 : decode cX4_init 78 = .ok (.putfield 39, 3) := by decide +kernel
theorem dX4_init_81 : decode cX4_init 81 = .ok (.return_, 1) := by decide +kernel
theorem dX4_copyFrom_0 : decode cX4_copyFrom 0 = .ok (.aload_n 0, 1) := by decide +kernel
theorem dX4_copyFrom_1 : decode cX4_copyFrom 1 = .ok (.aload_n 1, 1) := by decide +kernel
theorem dX4_copyFrom_2 : decode cX4_copyFrom 2 = .ok (.getfield 42, 3) := by decide +kernel
theorem dX4_copyFrom_5 : decode cX4_copyFrom 5 = .ok (.putfield 42, 3) := by decide +kernel
theorem dX4_copyFrom_8 : decode cX4_copyFrom 8 = .ok (.aload_n 1, 1) := by decide +kernel
theorem dX4_copyFrom_9 : decode cX4_copyFrom 9 = .ok (.getfield 9, 3) := by decide +kernel
theorem dX4_copyFrom_12 : decode cX4_copyFrom 12 = .ok (.iconst 0, 1) := by decide +kernel
theorem dX4_copyFrom_13 : decode cX4_copyFrom 13 = .ok (.aload_n 0, 1) := by decide +kernel
theorem dX4_copyFrom_14 : decode cX4_copyFrom 14 = .ok (.getfield 9, 3) := by decide +kernel
theorem dX4_copyFrom_17 : decode cX4_copyFrom 17 = .ok (.iconst 0, 1) := by decide +kernel
theorem dX4_copyFrom_18 : decode cX4_copyFrom 18 = .ok (.iconst 4, 1) := by decide +kernel
theorem dX4_copyFrom_19 : decode cX4_copyFrom 19 = .ok (.invokestatic 46, 3) := by decide +kernel
theorem dX4_copyFrom_22 : decode cX4_copyFrom 22 = .ok (.aload_n 1, 1) := by decide +kernel
theorem dX4_copyFrom_23 : decode cX4_copyFrom 23 = .ok (.getfield 15, 3) := by decide +kernel
theorem dX4_copyFrom_26 : decode cX4_copyFrom 26 = .ok (.iconst 0, 1) := by decide +kernel
theorem dX4_copyFrom_27 : decode cX4_copyFrom 27 = .ok (.aload_n 0, 1) := by decide +kernel
theorem dX4_copyFrom_28 : decode cX4_copyFrom 28 = .ok (.getfield 15, 3) := by decide +kernel
theorem dX4_copyFrom_31 : decode cX4_copyFrom 31 = .ok (.iconst 0, 1) := by decide +kernel
theorem dX4_copyFrom_32 : decode cX4_copyFrom 32 = .ok (.iconst 4, 1) := by decide +kernel
theorem dX4_copyFrom_33 : decode cX4_copyFrom 33 = .ok (.invokestatic 46, 3) := by decide +kernel
theorem dX4_copyFrom_36 : decode cX4_copyFrom 36 = .ok (.aload_n 1, 1) := by decide +kernel
theorem dX4_copyFrom_37 : decode cX4_copyFrom 37 = .ok (.getfield 18, 3) := by decide +kernel
theorem dX4_copyFrom_40 : decode cX4_copyFrom 40 = .ok (.iconst 0, 1) := by decide +kernel
theorem dX4_copyFrom_41 : decode cX4_copyFrom 41 = .ok (.aload_n 0, 1) := by decide +kernel
theorem dX4_copyFrom_42 : decode cX4_copyFrom 42 = .ok (.getfield 18, 3) := by decide +kernel
theorem dX4_copyFrom_45 : decode cX4_copyFrom 45 = .ok (.iconst 0, 1) := by decide +kernel
theorem dX4_copyFrom_46 : decode cX4_copyFrom 46 = .ok (.iconst 4, 1) := by decide +kernel
theorem dX4_copyFrom_47 : decode cX4_copyFrom 47 = .ok (.invokestatic 46, 3) := by decide +kernel
theorem dX4_copyFrom_50 : decode cX4_copyFrom 50 = .ok (.aload_n 0, 1) := by decide +kernel
theorem dX4_copyFrom_51 : decode cX4_copyFrom 51 = .ok (.aload_n 1, 1) := by decide +kernel
theorem dX4_copyFrom_52 : decode cX4_copyFrom 52 = .ok (.getfield 52, 3) := by decide +kernel
theorem dX4_copyFrom_55 : decode cX4_copyFrom 55 = .ok (.putfield 52, 3) := by decide +kernel
theorem dX4_copyFrom_58 : decode cX4_copyFrom 58 = .ok (.aload_n 1, 1) := by decide +kernel
theorem dX4_copyFrom_59 : decode cX4_copyFrom 59 = .ok (.getfield 21, 3) := by decide +kernel
theorem dX4_copyFrom_62 : decode cX4_copyFrom 62 = .ok (.iconst 0, 1) := by decide +kernel
theorem dX4_copyFrom_63 : decode cX4_copyFrom 63 = .ok (.aload_n 0, 1) := by decide +kernel
theorem dX4_copyFrom_64 : decode cX4_copyFrom 64 = .ok (.getfield 21, 3) := by decide +kernel
theorem dX4_copyFrom_67 : decode cX4_copyFrom 67 = .ok (.iconst 0, 1) := by decide +kernel
theorem dX4_copyFrom_68 : decode cX4_copyFrom 68 = .ok (.bipush 6, 2) := by decide +kernel
theorem dX4_copyFrom_70 : decode cX4_copyFrom 70 = .ok (.invokestatic 46, 3) := by decide +kernel
theorem dX4_copyFrom_73 : decode cX4_copyFrom 73 = .ok (.aload_n 1, 1) := by decide +kernel
theorem dX4_copyFrom_74 : decode cX4_copyFrom 74 = .ok (.getfield 24, 3) := by decide +kernel
theorem dX4_copyFrom_77 : decode cX4_copyFrom 77 = .ok (.iconst 0, 1) := by decide +kernel
theorem dX4_copyFrom_78 : decode cX4_copyFrom 78 = .ok (.aload_n 0, 1) := by decide +kernel
theorem dX4_copyFrom_79 : decode cX4_copyFrom 79 = .ok (.getfield 24, 3) := by decide +kernel
theorem dX4_copyFrom_82 : decode cX4_copyFrom 82 = .ok (.iconst 0, 1) := by decide +kernel
theorem dX4_copyFrom_83 : decode cX4_copyFrom 83 = .ok (.bipush 6, 2) := by decide +kernel
theorem dX4_copyFrom_85 : decode cX4_copyFrom 85 = .ok (.invokestatic 46, 3) := by decide +kernel
theorem dX4_copyFrom_88 : decode cX4_copyFrom 88 = .ok (.aload_n 0, 1) := by decide +kernel
theorem dX4_copyFrom_89 : decode cX4_copyFrom 89 = .ok (.aload_n 1, 1) := by decide +kernel
theorem dX4_copyFrom_90 : decode cX4_copyFrom 90 = .ok (.getfield 55, 3) := by decide +kernel
theorem dX4_copyFrom_93 : decode cX4_copyFrom 93 = .ok (.putfield 55, 3) := by decide +kernel
theorem dX4_copyFrom_96 : decode cX4_copyFrom 96 = .ok (.aload_n 1, 1) := by decide +kernel
theorem dX4_copyFrom_97 : decode cX4_copyFrom 97 = .ok (.getfield 27, 3) := by decide +kernel
theorem dX4_copyFrom_100 : decode cX4_copyFrom 100 = .ok (.iconst 0, 1) := by decide +kernel
theorem dX4_copyFrom_101 : decode cX4_copyFrom 101 = .ok (.aload_n 0, 1) := by decide +kernel
theorem dX4_copyFrom_102 : decode cX4_copyFrom 102 = .ok (.getfield 27, 3) := by decide +kernel
theorem dX4_copyFrom_105 : decode cX4_copyFrom 105 = .ok (.iconst 0, 1) := by decide +kernel
theorem dX4_copyFrom_106 : decode cX4_copyFrom 106 = .ok (.bipush 20, 2) := by decide +kernel
theorem dX4_copyFrom_108 : decode cX4_copyFrom 108 = .ok (.invokestatic 46, 3) := by decide +kernel
theorem dX4_copyFrom_111 : decode cX4_copyFrom 111 = .ok (.aload_n 1, 1) := by decide +kernel
theorem dX4_copyFrom_112 : decode cX4_copyFrom 112 = .ok (.getfield 30, 3) := by decide +kernel
theorem dX4_copyFrom_115 : decode cX4_copyFrom 115 = .ok (.iconst 0, 1) := by decide +kernel
theorem dX4_copyFrom_116 : decode cX4_copyFrom 116 = .ok (.aload_n 0, 1) := by decide +kernel
theorem dX4_copyFrom_117 : decode cX4_copyFrom 117 = .ok (.getfield 30, 3) := by decide +kernel
theorem dX4_copyFrom_120 : decode cX4_copyFrom 120 = .ok (.iconst 0, 1) := by decide +kernel
theorem dX4_copyFrom_121 : decode cX4_copyFrom 121 = .ok (.bipush 20, 2) := by decide +kernel
theorem dX4_copyFrom_123 : decode cX4_copyFrom 123 = .ok (.invokestatic 46, 3) := by decide +kernel
theorem dX4_copyFrom_126 : decode cX4_copyFrom 126 = .ok (.aload_n 1, 1) := by decide +kernel
theorem dX4_copyFrom_127 : decode cX4_copyFrom 127 = .ok (.getfield 33, 3) := by decide +kernel
theorem dX4_copyFrom_130 : decode cX4_copyFrom 130 = .ok (.iconst 0, 1) := by decide +kernel
theorem dX4_copyFrom_131 : decode cX4_copyFrom 131 = .ok (.aload_n 0, 1) := by decide +kernel
theorem dX4_copyFrom_132 : decode cX4_copyFrom 132 = .ok (.getfield 33, 3) := by decide +kernel
theorem dX4_copyFrom_135 : decode cX4_copyFrom 135 = .ok (.iconst 0, 1) := by decide +kernel
theorem dX4_copyFrom_136 : decode cX4_copyFrom 136 = .ok (.bipush 20, 2) := by decide +kernel
theorem dX4_copyFrom_138 : decode cX4_copyFrom 138 = .ok (.invokestatic 46, 3) := by decide +kernel
theorem dX4_copyFrom_141 : decode cX4_copyFrom 141 = .ok (.aload_n 1, 1) := by decide +kernel
theorem dX4_copyFrom_142 : decode cX4_copyFrom 142 = .ok (.getfield 36, 3) := by decide +kernel
theorem dX4_copyFrom_145 : decode cX4_copyFrom 145 = .ok (.iconst 0, 1) := by decide +kernel
theorem dX4_copyFrom_146 : decode cX4_copyFrom 146 = .ok (.aload_n 0, 1) := by decide +kernel
theorem dX4_copyFrom_147 : decode cX4_copyFrom 147 = .ok (.getfield 36, 3) := by decide +kernel
theorem dX4_copyFrom_150 : decode cX4_copyFrom 150 = .ok (.iconst 0, 1) := by decide +kernel
theorem dX4_copyFrom_151 : decode cX4_copyFrom 151 = .ok (.bipush 20, 2) := by decide +kernel
theorem dX4_copyFrom_153 : decode cX4_copyFrom 153 = .ok (.invokestatic 46, 3) := by decide +kernel
theorem dX4_copyFrom_156 : decode cX4_copyFrom 156 = .ok (.aload_n 1, 1) := by decide +kernel
theorem dX4_copyFrom_157 : decode cX4_copyFrom 157 = .ok (.getfield 39, 3) := by decide +kernel
theorem dX4_copyFrom_160 : decode cX4_copyFrom 160 = .ok (.iconst 0, 1) := by decide +kernel
theorem dX4_copyFrom_161 : decode cX4_copyFrom 161 = .ok (.aload_n 0, 1) := by decide +kernel
theorem dX4_copyFrom_162 : decode cX4_copyFrom 162 = .ok (.getfield 39, 3) := by decide +kernel
theorem dX4_copyFrom_165 : decode cX4_copyFrom 165 = .ok (.iconst 0, 1) := by decide +kernel
theorem dX4_copyFrom_166 : decode cX4_copyFrom 166 = .ok (.bipush 20, 2) := by decide +kernel
theorem dX4_copyFrom_168 : decode cX4_copyFrom 168 = .ok (.invokestatic 46, 3) := by decide +kernel
theorem dX4_copyFrom_171 : decode cX4_copyFrom 171 = .ok (.aload_n 0, 1) := by decide +kernel
theorem dX4_copyFrom_172 : decode cX4_copyFrom 172 = .ok (.aload_n 1, 1) := by decide +kernel
theorem dX4_copyFrom_173 : decode cX4_copyFrom 173 = .ok (.getfield 58, 3) := by decide +kernel
theorem dX4_copyFrom_176 : decode cX4_copyFrom 176 = .ok (.putfield 58, 3) := by decide +kernel
theorem dX4_copyFrom_179 : decode cX4_copyFrom 179 = .ok (.aload_n 0, 1) := by decide +kernel
theorem dX4_copyFrom_180 : decode cX4_copyFrom 180 = .ok (.aload_n 1, 1) := by decide +kernel
theorem dX4_copyFrom_181 : decode cX4_copyFrom 181 = .ok (.getfield 61, 3) := by decide +kernel
theorem dX4_copyFrom_184 : decode cX4_copyFrom 184 = .ok (.putfield 61, 3) := by decide +kernel
theorem dX4_copyFrom_187 : decode cX4_copyFrom 187 = .ok (.aload_n 0, 1) := by decide +kernel
theorem dX4_copyFrom_188 : decode cX4_copyFrom 188 = .ok (.aload_n 1, 1) := by decide +kernel
theorem dX4_copyFrom_189 : decode cX4_copyFrom 189 = .ok (.getfield 64, 3) := by decide +kernel
theorem dX4_copyFrom_192 : decode cX4_copyFrom 192 = .ok (.putfield 64, 3) := by decide +kernel
theorem dX4_copyFrom_195 : decode cX4_copyFrom 195 = .ok (.aload_n 0, 1) := by decide +kernel
theorem dX4_copyFrom_196 : decode cX4_copyFrom 196 = .ok (.aload_n 1, 1) := by decide +kernel
theorem dX4_copyFrom_197 : decode cX4_copyFrom 197 = .ok (.getfield 67, 3) := by decide +kernel
theorem dX4_copyFrom_200 : decode cX4_copyFrom 200 = .ok (.putfield 67, 3) := by decide +kernel
theorem dX4_copyFrom_203 : decode cX4_copyFrom 203 = .ok (.aload_n 0, 1) := by decide +kernel
theorem dX4_copyFrom_204 : decode cX4_copyFrom 204 = .ok (.aload_n 1, 1) := by decide +kernel
theorem dX4_copyFrom_205 : decode cX4_copyFrom 205 = .ok (.getfield 71, 3) := by decide +kernel
theorem dX4_copyFrom_208 : decode cX4_copyFrom 208 = .ok (.putfield 71, 3) := by decide +kernel
theorem dX4_copyFrom_211 : decode cX4_copyFrom 211 = .ok (.return_, 1) := by decide +kernel
theorem dX4_faultOfHorizon_0 : decode cX4_faultOfHorizon 0 = .ok (.iload_n 1, 1) := by decide +kernel
theorem dX4_faultOfHorizon_1 : decode cX4_faultOfHorizon 1 = .ok (.iconst 1, 1) := by decide +kernel
theorem dX4_faultOfHorizon_2 : decode cX4_faultOfHorizon 2 = .ok (.bipush 99, 2) := by decide +kernel
theorem dX4_faultOfHorizon_4 : decode cX4_faultOfHorizon 4 = .ok (.invokestatic 74, 3) := by decide +kernel
theorem dX4_faultOfHorizon_7 : decode cX4_faultOfHorizon 7 = .ok (.ifCond .eq 13, 3) := by decide +kernel
theorem dX4_faultOfHorizon_10 : decode cX4_faultOfHorizon 10 = .ok (.iload_n 2, 1) := by decide +kernel
theorem dX4_faultOfHorizon_11 : decode cX4_faultOfHorizon 11 = .ok (.iconst 1, 1) := by decide +kernel
theorem dX4_faultOfHorizon_12 : decode cX4_faultOfHorizon 12 = .ok (.bipush 20, 2) := by decide +kernel
theorem dX4_faultOfHorizon_14 : decode cX4_faultOfHorizon 14 = .ok (.invokestatic 74, 3) := by decide +kernel
theorem dX4_faultOfHorizon_17 : decode cX4_faultOfHorizon 17 = .ok (.ifCond .ne 5, 3) := by decide +kernel
theorem dX4_faultOfHorizon_20 : decode cX4_faultOfHorizon 20 = .ok (.iconst 2, 1) := by decide +kernel
theorem dX4_faultOfHorizon_21 : decode cX4_faultOfHorizon 21 = .ok (.ireturn, 1) := by decide +kernel
theorem dX4_faultOfHorizon_22 : decode cX4_faultOfHorizon 22 = .ok (.aload_n 0, 1) := by decide +kernel
theorem dX4_faultOfHorizon_23 : decode cX4_faultOfHorizon 23 = .ok (.getfield 42, 3) := by decide +kernel
theorem dX4_faultOfHorizon_26 : decode cX4_faultOfHorizon 26 = .ok (.iconst 4, 1) := by decide +kernel
theorem dX4_faultOfHorizon_27 : decode cX4_faultOfHorizon 27 = .ok (.if_icmp .lt 7, 3) := by decide +kernel
theorem dX4_faultOfHorizon_30 : decode cX4_faultOfHorizon 30 = .ok (.iconst 3, 1) := by decide +kernel
theorem dX4_faultOfHorizon_31 : decode cX4_faultOfHorizon 31 = .ok (.goto 4, 3) := by decide +kernel
theorem dX4_faultOfHorizon_34 : decode cX4_faultOfHorizon 34 = .ok (.iconst 0, 1) := by decide +kernel
theorem dX4_faultOfHorizon_35 : decode cX4_faultOfHorizon 35 = .ok (.ireturn, 1) := by decide +kernel
theorem dX4_faultOfTrader_0 : decode cX4_faultOfTrader 0 = .ok (.iload_n 1, 1) := by decide +kernel
theorem dX4_faultOfTrader_1 : decode cX4_faultOfTrader 1 = .ok (.iconst 0, 1) := by decide +kernel
theorem dX4_faultOfTrader_2 : decode cX4_faultOfTrader 2 = .ok (.sipush 9999, 3) := by decide +kernel
theorem dX4_faultOfTrader_5 : decode cX4_faultOfTrader 5 = .ok (.invokestatic 74, 3) := by decide +kernel
theorem dX4_faultOfTrader_8 : decode cX4_faultOfTrader 8 = .ok (.ifCond .ne 5, 3) := by decide +kernel
theorem dX4_faultOfTrader_11 : decode cX4_faultOfTrader 11 = .ok (.iconst 2, 1) := by decide +kernel
theorem dX4_faultOfTrader_12 : decode cX4_faultOfTrader 12 = .ok (.ireturn, 1) := by decide +kernel
theorem dX4_faultOfTrader_13 : decode cX4_faultOfTrader 13 = .ok (.aload_n 0, 1) := by decide +kernel
theorem dX4_faultOfTrader_14 : decode cX4_faultOfTrader 14 = .ok (.getfield 52, 3) := by decide +kernel
theorem dX4_faultOfTrader_17 : decode cX4_faultOfTrader 17 = .ok (.bipush 6, 2) := by decide +kernel
theorem dX4_faultOfTrader_19 : decode cX4_faultOfTrader 19 = .ok (.if_icmp .lt 7, 3) := by decide +kernel
theorem dX4_faultOfTrader_22 : decode cX4_faultOfTrader 22 = .ok (.iconst 3, 1) := by decide +kernel
theorem dX4_faultOfTrader_23 : decode cX4_faultOfTrader 23 = .ok (.goto 4, 3) := by decide +kernel
theorem dX4_faultOfTrader_26 : decode cX4_faultOfTrader 26 = .ok (.iconst 0, 1) := by decide +kernel
theorem dX4_faultOfTrader_27 : decode cX4_faultOfTrader 27 = .ok (.ireturn, 1) := by decide +kernel
theorem dX4_faultOfTrade_0 : decode cX4_faultOfTrade 0 = .ok (.iload_n 1, 1) := by decide +kernel
theorem dX4_faultOfTrade_1 : decode cX4_faultOfTrade 1 = .ok (.aload_n 0, 1) := by decide +kernel
theorem dX4_faultOfTrade_2 : decode cX4_faultOfTrade 2 = .ok (.getfield 52, 3) := by decide +kernel
theorem dX4_faultOfTrade_5 : decode cX4_faultOfTrade 5 = .ok (.invokestatic 80, 3) := by decide +kernel
theorem dX4_faultOfTrade_8 : decode cX4_faultOfTrade 8 = .ok (.ifCond .eq 25, 3) := by decide +kernel
theorem dX4_faultOfTrade_11 : decode cX4_faultOfTrade 11 = .ok (.iload_n 2, 1) := by decide +kernel
theorem dX4_faultOfTrade_12 : decode cX4_faultOfTrade 12 = .ok (.aload_n 0, 1) := by decide +kernel
theorem dX4_faultOfTrade_13 : decode cX4_faultOfTrade 13 = .ok (.getfield 52, 3) := by decide +kernel
theorem dX4_faultOfTrade_16 : decode cX4_faultOfTrade 16 = .ok (.invokestatic 80, 3) := by decide +kernel
theorem dX4_faultOfTrade_19 : decode cX4_faultOfTrade 19 = .ok (.ifCond .eq 14, 3) := by decide +kernel
theorem dX4_faultOfTrade_22 : decode cX4_faultOfTrade 22 = .ok (.iload_n 3, 1) := by decide +kernel
theorem dX4_faultOfTrade_23 : decode cX4_faultOfTrade 23 = .ok (.aload_n 0, 1) := by decide +kernel
theorem dX4_faultOfTrade_24 : decode cX4_faultOfTrade 24 = .ok (.getfield 42, 3) := by decide +kernel
theorem dX4_faultOfTrade_27 : decode cX4_faultOfTrade 27 = .ok (.invokestatic 80, 3) := by decide +kernel
theorem dX4_faultOfTrade_30 : decode cX4_faultOfTrade 30 = .ok (.ifCond .ne 5, 3) := by decide +kernel
theorem dX4_faultOfTrade_33 : decode cX4_faultOfTrade 33 = .ok (.iconst 1, 1) := by decide +kernel
theorem dX4_faultOfTrade_34 : decode cX4_faultOfTrade 34 = .ok (.ireturn, 1) := by decide +kernel
theorem dX4_faultOfTrade_35 : decode cX4_faultOfTrade 35 = .ok (.iload_n 1, 1) := by decide +kernel
theorem dX4_faultOfTrade_36 : decode cX4_faultOfTrade 36 = .ok (.iload_n 2, 1) := by decide +kernel
theorem dX4_faultOfTrade_37 : decode cX4_faultOfTrade 37 = .ok (.if_icmp .eq 25, 3) := by decide +kernel
theorem dX4_faultOfTrade_40 : decode cX4_faultOfTrade 40 = .ok (.iload 4, 2) := by decide +kernel
theorem dX4_faultOfTrade_42 : decode cX4_faultOfTrade 42 = .ok (.iconst 1, 1) := by decide +kernel
theorem dX4_faultOfTrade_43 : decode cX4_faultOfTrade 43 = .ok (.bipush 20, 2) := by decide +kernel
theorem dX4_faultOfTrade_45 : decode cX4_faultOfTrade 45 = .ok (.invokestatic 74, 3) := by decide +kernel
theorem dX4_faultOfTrade_48 : decode cX4_faultOfTrade 48 = .ok (.ifCond .eq 14, 3) := by decide +kernel
theorem dX4_faultOfTrade_51 : decode cX4_faultOfTrade 51 = .ok (.iload 5, 2) := by decide +kernel
theorem dX4_faultOfTrade_53 : decode cX4_faultOfTrade 53 = .ok (.iconst 1, 1) := by decide +kernel
theorem dX4_faultOfTrade_54 : decode cX4_faultOfTrade 54 = .ok (.bipush 9, 2) := by decide +kernel
theorem dX4_faultOfTrade_56 : decode cX4_faultOfTrade 56 = .ok (.invokestatic 74, 3) := by decide +kernel
theorem dX4_faultOfTrade_59 : decode cX4_faultOfTrade 59 = .ok (.ifCond .ne 5, 3) := by decide +kernel
theorem dX4_faultOfTrade_62 : decode cX4_faultOfTrade 62 = .ok (.iconst 2, 1) := by decide +kernel
theorem dX4_faultOfTrade_63 : decode cX4_faultOfTrade 63 = .ok (.ireturn, 1) := by decide +kernel
theorem dX4_faultOfTrade_64 : decode cX4_faultOfTrade 64 = .ok (.aload_n 0, 1) := by decide +kernel
theorem dX4_faultOfTrade_65 : decode cX4_faultOfTrade 65 = .ok (.getfield 55, 3) := by decide +kernel
theorem dX4_faultOfTrade_68 : decode cX4_faultOfTrade 68 = .ok (.bipush 20, 2) := by decide +kernel
theorem dX4_faultOfTrade_70 : decode cX4_faultOfTrade 70 = .ok (.if_icmp .ge 21, 3) := by decide +kernel
theorem dX4_faultOfTrade_73 : decode cX4_faultOfTrade 73 = .ok (.aload_n 0, 1) := by decide +kernel
theorem dX4_faultOfTrade_74 : decode cX4_faultOfTrade 74 = .ok (.getfield 24, 3) := by decide +kernel
theorem dX4_faultOfTrade_77 : decode cX4_faultOfTrade 77 = .ok (.iload_n 1, 1) := by decide +kernel
theorem dX4_faultOfTrade_78 : decode cX4_faultOfTrade 78 = .ok (.iaload, 1) := by decide +kernel
theorem dX4_faultOfTrade_79 : decode cX4_faultOfTrade 79 = .ok (.ifCond .ne 12, 3) := by decide +kernel
theorem dX4_faultOfTrade_82 : decode cX4_faultOfTrade 82 = .ok (.aload_n 0, 1) := by decide +kernel
theorem dX4_faultOfTrade_83 : decode cX4_faultOfTrade 83 = .ok (.getfield 24, 3) := by decide +kernel
theorem dX4_faultOfTrade_86 : decode cX4_faultOfTrade 86 = .ok (.iload_n 2, 1) := by decide +kernel
theorem dX4_faultOfTrade_87 : decode cX4_faultOfTrade 87 = .ok (.iaload, 1) := by decide +kernel
theorem dX4_faultOfTrade_88 : decode cX4_faultOfTrade 88 = .ok (.ifCond .eq 5, 3) := by decide +kernel
theorem dX4_faultOfTrade_91 : decode cX4_faultOfTrade 91 = .ok (.iconst 3, 1) := by decide +kernel
theorem dX4_faultOfTrade_92 : decode cX4_faultOfTrade 92 = .ok (.ireturn, 1) := by decide +kernel
theorem dX4_faultOfTrade_93 : decode cX4_faultOfTrade 93 = .ok (.aload_n 0, 1) := by decide +kernel
theorem dX4_faultOfTrade_94 : decode cX4_faultOfTrade 94 = .ok (.getfield 21, 3) := by decide +kernel
theorem dX4_faultOfTrade_97 : decode cX4_faultOfTrade 97 = .ok (.iload_n 1, 1) := by decide +kernel
theorem dX4_faultOfTrade_98 : decode cX4_faultOfTrade 98 = .ok (.iaload, 1) := by decide +kernel
theorem dX4_faultOfTrade_99 : decode cX4_faultOfTrade 99 = .ok (.aload_n 0, 1) := by decide +kernel
theorem dX4_faultOfTrade_100 : decode cX4_faultOfTrade 100 = .ok (.iload_n 1, 1) := by decide +kernel
theorem dX4_faultOfTrade_101 : decode cX4_faultOfTrade 101 = .ok (.iload_n 3, 1) := by decide +kernel
theorem dX4_faultOfTrade_102 : decode cX4_faultOfTrade 102 = .ok (.iload 4, 2) := by decide +kernel
theorem dX4_faultOfTrade_104 : decode cX4_faultOfTrade 104 = .ok (.invokevirtual 84, 3) := by decide +kernel
theorem dX4_faultOfTrade_107 : decode cX4_faultOfTrade 107 = .ok (.if_icmp .lt 21, 3) := by decide +kernel
theorem dX4_faultOfTrade_110 : decode cX4_faultOfTrade 110 = .ok (.aload_n 0, 1) := by decide +kernel
theorem dX4_faultOfTrade_111 : decode cX4_faultOfTrade 111 = .ok (.getfield 21, 3) := by decide +kernel
theorem dX4_faultOfTrade_114 : decode cX4_faultOfTrade 114 = .ok (.iload_n 2, 1) := by decide +kernel
theorem dX4_faultOfTrade_115 : decode cX4_faultOfTrade 115 = .ok (.iaload, 1) := by decide +kernel
theorem dX4_faultOfTrade_116 : decode cX4_faultOfTrade 116 = .ok (.aload_n 0, 1) := by decide +kernel
theorem dX4_faultOfTrade_117 : decode cX4_faultOfTrade 117 = .ok (.iload_n 2, 1) := by decide +kernel
theorem dX4_faultOfTrade_118 : decode cX4_faultOfTrade 118 = .ok (.iload_n 3, 1) := by decide +kernel
theorem dX4_faultOfTrade_119 : decode cX4_faultOfTrade 119 = .ok (.iload 4, 2) := by decide +kernel
theorem dX4_faultOfTrade_121 : decode cX4_faultOfTrade 121 = .ok (.ineg, 1) := by decide +kernel
theorem dX4_faultOfTrade_122 : decode cX4_faultOfTrade 122 = .ok (.invokevirtual 84, 3) := by decide +kernel
theorem dX4_faultOfTrade_125 : decode cX4_faultOfTrade 125 = .ok (.if_icmp .ge 5, 3) := by decide +kernel
theorem dX4_faultOfTrade_128 : decode cX4_faultOfTrade 128 = .ok (.iconst 4, 1) := by decide +kernel
theorem dX4_faultOfTrade_129 : decode cX4_faultOfTrade 129 = .ok (.ireturn, 1) := by decide +kernel
theorem dX4_faultOfTrade_130 : decode cX4_faultOfTrade 130 = .ok (.iconst 0, 1) := by decide +kernel
theorem dX4_faultOfTrade_131 : decode cX4_faultOfTrade 131 = .ok (.ireturn, 1) := by decide +kernel
theorem dX4_faultOfQuote_0 : decode cX4_faultOfQuote 0 = .ok (.iload_n 1, 1) := by decide +kernel
theorem dX4_faultOfQuote_1 : decode cX4_faultOfQuote 1 = .ok (.aload_n 0, 1) := by decide +kernel
theorem dX4_faultOfQuote_2 : decode cX4_faultOfQuote 2 = .ok (.getfield 42, 3) := by decide +kernel
theorem dX4_faultOfQuote_5 : decode cX4_faultOfQuote 5 = .ok (.invokestatic 80, 3) := by decide +kernel
theorem dX4_faultOfQuote_8 : decode cX4_faultOfQuote 8 = .ok (.ifCond .ne 5, 3) := by decide +kernel
theorem dX4_faultOfQuote_11 : decode cX4_faultOfQuote 11 = .ok (.iconst 1, 1) := by decide +kernel
theorem dX4_faultOfQuote_12 : decode cX4_faultOfQuote 12 = .ok (.ireturn, 1) := by decide +kernel
theorem dX4_faultOfQuote_13 : decode cX4_faultOfQuote 13 = .ok (.iload_n 2, 1) := by decide +kernel
theorem dX4_faultOfQuote_14 : decode cX4_faultOfQuote 14 = .ok (.iconst 1, 1) := by decide +kernel
theorem dX4_faultOfQuote_15 : decode cX4_faultOfQuote 15 = .ok (.bipush 99, 2) := by decide +kernel
theorem dX4_faultOfQuote_17 : decode cX4_faultOfQuote 17 = .ok (.invokestatic 74, 3) := by decide +kernel
theorem dX4_faultOfQuote_20 : decode cX4_faultOfQuote 20 = .ok (.ifCond .eq 7, 3) := by decide +kernel
theorem dX4_faultOfQuote_23 : decode cX4_faultOfQuote 23 = .ok (.iconst 0, 1) := by decide +kernel
theorem dX4_faultOfQuote_24 : decode cX4_faultOfQuote 24 = .ok (.goto 4, 3) := by decide +kernel
theorem dX4_faultOfQuote_27 : decode cX4_faultOfQuote 27 = .ok (.iconst 2, 1) := by decide +kernel
theorem dX4_faultOfQuote_28 : decode cX4_faultOfQuote 28 = .ok (.ireturn, 1) := by decide +kernel
theorem dX4_faultOfBringing_0 : decode cX4_faultOfBringing 0 = .ok (.iload_n 1, 1) := by decide +kernel
theorem dX4_faultOfBringing_1 : decode cX4_faultOfBringing 1 = .ok (.aload_n 0, 1) := by decide +kernel
theorem dX4_faultOfBringing_2 : decode cX4_faultOfBringing 2 = .ok (.getfield 52, 3) := by decide +kernel
theorem dX4_faultOfBringing_5 : decode cX4_faultOfBringing 5 = .ok (.invokestatic 80, 3) := by decide +kernel
theorem dX4_faultOfBringing_8 : decode cX4_faultOfBringing 8 = .ok (.ifCond .ne 5, 3) := by decide +kernel
theorem dX4_faultOfBringing_11 : decode cX4_faultOfBringing 11 = .ok (.iconst 1, 1) := by decide +kernel
theorem dX4_faultOfBringing_12 : decode cX4_faultOfBringing 12 = .ok (.ireturn, 1) := by decide +kernel
theorem dX4_faultOfBringing_13 : decode cX4_faultOfBringing 13 = .ok (.iload_n 2, 1) := by decide +kernel
theorem dX4_faultOfBringing_14 : decode cX4_faultOfBringing 14 = .ok (.iconst 1, 1) := by decide +kernel
theorem dX4_faultOfBringing_15 : decode cX4_faultOfBringing 15 = .ok (.sipush 9999, 3) := by decide +kernel
theorem dX4_faultOfBringing_18 : decode cX4_faultOfBringing 18 = .ok (.invokestatic 74, 3) := by decide +kernel
theorem dX4_faultOfBringing_21 : decode cX4_faultOfBringing 21 = .ok (.ifCond .ne 5, 3) := by decide +kernel
theorem dX4_faultOfBringing_24 : decode cX4_faultOfBringing 24 = .ok (.iconst 2, 1) := by decide +kernel
theorem dX4_faultOfBringing_25 : decode cX4_faultOfBringing 25 = .ok (.ireturn, 1) := by decide +kernel
theorem dX4_faultOfBringing_26 : decode cX4_faultOfBringing 26 = .ok (.aload_n 0, 1) := by decide +kernel
theorem dX4_faultOfBringing_27 : decode cX4_faultOfBringing 27 = .ok (.getfield 24, 3) := by decide +kernel
theorem dX4_faultOfBringing_30 : decode cX4_faultOfBringing 30 = .ok (.iload_n 1, 1) := by decide +kernel
theorem dX4_faultOfBringing_31 : decode cX4_faultOfBringing 31 = .ok (.iaload, 1) := by decide +kernel
theorem dX4_faultOfBringing_32 : decode cX4_faultOfBringing 32 = .ok (.iconst 2, 1) := by decide +kernel
theorem dX4_faultOfBringing_33 : decode cX4_faultOfBringing 33 = .ok (.if_icmp .ne 7, 3) := by decide +kernel
theorem dX4_faultOfBringing_36 : decode cX4_faultOfBringing 36 = .ok (.iconst 3, 1) := by decide +kernel
theorem dX4_faultOfBringing_37 : decode cX4_faultOfBringing 37 = .ok (.goto 4, 3) := by decide +kernel
theorem dX4_faultOfBringing_40 : decode cX4_faultOfBringing 40 = .ok (.iconst 0, 1) := by decide +kernel
theorem dX4_faultOfBringing_41 : decode cX4_faultOfBringing 41 = .ok (.ireturn, 1) := by decide +kernel
theorem dX4_faultOfTaking_0 : decode cX4_faultOfTaking 0 = .ok (.aload_n 0, 1) := by decide +kernel
theorem dX4_faultOfTaking_1 : decode cX4_faultOfTaking 1 = .ok (.iload_n 1, 1) := by decide +kernel
theorem dX4_faultOfTaking_2 : decode cX4_faultOfTaking 2 = .ok (.iload_n 2, 1) := by decide +kernel
theorem dX4_faultOfTaking_3 : decode cX4_faultOfTaking 3 = .ok (.invokevirtual 88, 3) := by decide +kernel
theorem dX4_faultOfTaking_6 : decode cX4_faultOfTaking 6 = .ok (.istore_n 3, 1) := by decide +kernel
theorem dX4_faultOfTaking_7 : decode cX4_faultOfTaking 7 = .ok (.iload_n 3, 1) := by decide +kernel
theorem dX4_faultOfTaking_8 : decode cX4_faultOfTaking 8 = .ok (.ifCond .eq 5, 3) := by decide +kernel
theorem dX4_faultOfTaking_11 : decode cX4_faultOfTaking 11 = .ok (.iload_n 3, 1) := by decide +kernel
theorem dX4_faultOfTaking_12 : decode cX4_faultOfTaking 12 = .ok (.ireturn, 1) := by decide +kernel
theorem dX4_faultOfTaking_13 : decode cX4_faultOfTaking 13 = .ok (.aload_n 0, 1) := by decide +kernel
theorem dX4_faultOfTaking_14 : decode cX4_faultOfTaking 14 = .ok (.getfield 21, 3) := by decide +kernel
theorem dX4_faultOfTaking_17 : decode cX4_faultOfTaking 17 = .ok (.iload_n 1, 1) := by decide +kernel
theorem dX4_faultOfTaking_18 : decode cX4_faultOfTaking 18 = .ok (.iaload, 1) := by decide +kernel
theorem dX4_faultOfTaking_19 : decode cX4_faultOfTaking 19 = .ok (.iload_n 2, 1) := by decide +kernel
theorem dX4_faultOfTaking_20 : decode cX4_faultOfTaking 20 = .ok (.isub, 1) := by decide +kernel
theorem dX4_faultOfTaking_21 : decode cX4_faultOfTaking 21 = .ok (.aload_n 0, 1) := by decide +kernel
theorem dX4_faultOfTaking_22 : decode cX4_faultOfTaking 22 = .ok (.iload_n 1, 1) := by decide +kernel
theorem dX4_faultOfTaking_23 : decode cX4_faultOfTaking 23 = .ok (.invokevirtual 92, 3) := by decide +kernel
theorem dX4_faultOfTaking_26 : decode cX4_faultOfTaking 26 = .ok (.if_icmp .ge 7, 3) := by decide +kernel
theorem dX4_faultOfTaking_29 : decode cX4_faultOfTaking 29 = .ok (.iconst 4, 1) := by decide +kernel
theorem dX4_faultOfTaking_30 : decode cX4_faultOfTaking 30 = .ok (.goto 4, 3) := by decide +kernel
theorem dX4_faultOfTaking_33 : decode cX4_faultOfTaking 33 = .ok (.iconst 0, 1) := by decide +kernel
theorem dX4_faultOfTaking_34 : decode cX4_faultOfTaking 34 = .ok (.ireturn, 1) := by decide +kernel
theorem dX4_placeHorizon_0 : decode cX4_placeHorizon 0 = .ok (.aload_n 0, 1) := by decide +kernel
theorem dX4_placeHorizon_1 : decode cX4_placeHorizon 1 = .ok (.getfield 9, 3) := by decide +kernel
theorem dX4_placeHorizon_4 : decode cX4_placeHorizon 4 = .ok (.aload_n 0, 1) := by decide +kernel
theorem dX4_placeHorizon_5 : decode cX4_placeHorizon 5 = .ok (.getfield 42, 3) := by decide +kernel
theorem dX4_placeHorizon_8 : decode cX4_placeHorizon 8 = .ok (.iload_n 1, 1) := by decide +kernel
theorem dX4_placeHorizon_9 : decode cX4_placeHorizon 9 = .ok (.iastore, 1) := by decide +kernel
theorem dX4_placeHorizon_10 : decode cX4_placeHorizon 10 = .ok (.aload_n 0, 1) := by decide +kernel
theorem dX4_placeHorizon_11 : decode cX4_placeHorizon 11 = .ok (.getfield 15, 3) := by decide +kernel
theorem dX4_placeHorizon_14 : decode cX4_placeHorizon 14 = .ok (.aload_n 0, 1) := by decide +kernel
theorem dX4_placeHorizon_15 : decode cX4_placeHorizon 15 = .ok (.getfield 42, 3) := by decide +kernel
theorem dX4_placeHorizon_18 : decode cX4_placeHorizon 18 = .ok (.iload_n 1, 1) := by decide +kernel
theorem dX4_placeHorizon_19 : decode cX4_placeHorizon 19 = .ok (.iastore, 1) := by decide +kernel
theorem dX4_placeHorizon_20 : decode cX4_placeHorizon 20 = .ok (.aload_n 0, 1) := by decide +kernel
theorem dX4_placeHorizon_21 : decode cX4_placeHorizon 21 = .ok (.getfield 18, 3) := by decide +kernel
theorem dX4_placeHorizon_24 : decode cX4_placeHorizon 24 = .ok (.aload_n 0, 1) := by decide +kernel
theorem dX4_placeHorizon_25 : decode cX4_placeHorizon 25 = .ok (.getfield 42, 3) := by decide +kernel
theorem dX4_placeHorizon_28 : decode cX4_placeHorizon 28 = .ok (.iload_n 2, 1) := by decide +kernel
theorem dX4_placeHorizon_29 : decode cX4_placeHorizon 29 = .ok (.iastore, 1) := by decide +kernel
theorem dX4_placeHorizon_30 : decode cX4_placeHorizon 30 = .ok (.aload_n 0, 1) := by decide +kernel
theorem dX4_placeHorizon_31 : decode cX4_placeHorizon 31 = .ok (.dup, 1) := by decide +kernel
theorem dX4_placeHorizon_32 : decode cX4_placeHorizon 32 = .ok (.getfield 42, 3) := by decide +kernel
theorem dX4_placeHorizon_35 : decode cX4_placeHorizon 35 = .ok (.iconst 1, 1) := by decide +kernel
theorem dX4_placeHorizon_36 : decode cX4_placeHorizon 36 = .ok (.iadd, 1) := by decide +kernel
theorem dX4_placeHorizon_37 : decode cX4_placeHorizon 37 = .ok (.putfield 42, 3) := by decide +kernel
theorem dX4_placeHorizon_40 : decode cX4_placeHorizon 40 = .ok (.aload_n 0, 1) := by decide +kernel
theorem dX4_placeHorizon_41 : decode cX4_placeHorizon 41 = .ok (.getfield 42, 3) := by decide +kernel
theorem dX4_placeHorizon_44 : decode cX4_placeHorizon 44 = .ok (.iconst 1, 1) := by decide +kernel
theorem dX4_placeHorizon_45 : decode cX4_placeHorizon 45 = .ok (.isub, 1) := by decide +kernel
theorem dX4_placeHorizon_46 : decode cX4_placeHorizon 46 = .ok (.ireturn, 1) := by decide +kernel
theorem dX4_placeTrader_0 : decode cX4_placeTrader 0 = .ok (.aload_n 0, 1) := by decide +kernel
theorem dX4_placeTrader_1 : decode cX4_placeTrader 1 = .ok (.getfield 21, 3) := by decide +kernel
theorem dX4_placeTrader_4 : decode cX4_placeTrader 4 = .ok (.aload_n 0, 1) := by decide +kernel
theorem dX4_placeTrader_5 : decode cX4_placeTrader 5 = .ok (.getfield 52, 3) := by decide +kernel
theorem dX4_placeTrader_8 : decode cX4_placeTrader 8 = .ok (.iload_n 1, 1) := by decide +kernel
theorem dX4_placeTrader_9 : decode cX4_placeTrader 9 = .ok (.iastore, 1) := by decide +kernel
theorem dX4_placeTrader_10 : decode cX4_placeTrader 10 = .ok (.aload_n 0, 1) := by decide +kernel
theorem dX4_placeTrader_11 : decode cX4_placeTrader 11 = .ok (.getfield 24, 3) := by decide +kernel
theorem dX4_placeTrader_14 : decode cX4_placeTrader 14 = .ok (.aload_n 0, 1) := by decide +kernel
theorem dX4_placeTrader_15 : decode cX4_placeTrader 15 = .ok (.getfield 52, 3) := by decide +kernel
theorem dX4_placeTrader_18 : decode cX4_placeTrader 18 = .ok (.iconst 0, 1) := by decide +kernel
theorem dX4_placeTrader_19 : decode cX4_placeTrader 19 = .ok (.iastore, 1) := by decide +kernel
theorem dX4_placeTrader_20 : decode cX4_placeTrader 20 = .ok (.aload_n 0, 1) := by decide +kernel
theorem dX4_placeTrader_21 : decode cX4_placeTrader 21 = .ok (.dup, 1) := by decide +kernel
theorem dX4_placeTrader_22 : decode cX4_placeTrader 22 = .ok (.getfield 67, 3) := by decide +kernel
theorem dX4_placeTrader_25 : decode cX4_placeTrader 25 = .ok (.iload_n 1, 1) := by decide +kernel
theorem dX4_placeTrader_26 : decode cX4_placeTrader 26 = .ok (.i2l, 1) := by decide +kernel
theorem dX4_placeTrader_27 : decode cX4_placeTrader 27 = .ok (.ladd, 1) := by decide +kernel
theorem dX4_placeTrader_28 : decode cX4_placeTrader 28 = .ok (.putfield 67, 3) := by decide +kernel
theorem dX4_placeTrader_31 : decode cX4_placeTrader 31 = .ok (.aload_n 0, 1) := by decide +kernel
theorem dX4_placeTrader_32 : decode cX4_placeTrader 32 = .ok (.dup, 1) := by decide +kernel
theorem dX4_placeTrader_33 : decode cX4_placeTrader 33 = .ok (.getfield 52, 3) := by decide +kernel
theorem dX4_placeTrader_36 : decode cX4_placeTrader 36 = .ok (.iconst 1, 1) := by decide +kernel
theorem dX4_placeTrader_37 : decode cX4_placeTrader 37 = .ok (.iadd, 1) := by decide +kernel
theorem dX4_placeTrader_38 : decode cX4_placeTrader 38 = .ok (.putfield 52, 3) := by decide +kernel
theorem dX4_placeTrader_41 : decode cX4_placeTrader 41 = .ok (.aload_n 0, 1) := by decide +kernel
theorem dX4_placeTrader_42 : decode cX4_placeTrader 42 = .ok (.getfield 52, 3) := by decide +kernel
theorem dX4_placeTrader_45 : decode cX4_placeTrader 45 = .ok (.iconst 1, 1) := by decide +kernel
theorem dX4_placeTrader_46 : decode cX4_placeTrader 46 = .ok (.isub, 1) := by decide +kernel
theorem dX4_placeTrader_47 : decode cX4_placeTrader 47 = .ok (.ireturn, 1) := by decide +kernel
theorem dX4_conclude_0 : decode cX4_conclude 0 = .ok (.aload_n 0, 1) := by decide +kernel
theorem dX4_conclude_1 : decode cX4_conclude 1 = .ok (.getfield 27, 3) := by decide +kernel
theorem dX4_conclude_4 : decode cX4_conclude 4 = .ok (.aload_n 0, 1) := by decide +kernel
theorem dX4_conclude_5 : decode cX4_conclude 5 = .ok (.getfield 55, 3) := by decide +kernel
theorem dX4_conclude_8 : decode cX4_conclude 8 = .ok (.iload_n 1, 1) := by decide +kernel
theorem dX4_conclude_9 : decode cX4_conclude 9 = .ok (.iastore, 1) := by decide +kernel
theorem dX4_conclude_10 : decode cX4_conclude 10 = .ok (.aload_n 0, 1) := by decide +kernel
theorem dX4_conclude_11 : decode cX4_conclude 11 = .ok (.getfield 30, 3) := by decide +kernel
theorem dX4_conclude_14 : decode cX4_conclude 14 = .ok (.aload_n 0, 1) := by decide +kernel
theorem dX4_conclude_15 : decode cX4_conclude 15 = .ok (.getfield 55, 3) := by decide +kernel
theorem dX4_conclude_18 : decode cX4_conclude 18 = .ok (.iload_n 2, 1) := by decide +kernel
theorem dX4_conclude_19 : decode cX4_conclude 19 = .ok (.iastore, 1) := by decide +kernel
theorem dX4_conclude_20 : decode cX4_conclude 20 = .ok (.aload_n 0, 1) := by decide +kernel
theorem dX4_conclude_21 : decode cX4_conclude 21 = .ok (.getfield 33, 3) := by decide +kernel
theorem dX4_conclude_24 : decode cX4_conclude 24 = .ok (.aload_n 0, 1) := by decide +kernel
theorem dX4_conclude_25 : decode cX4_conclude 25 = .ok (.getfield 55, 3) := by decide +kernel
theorem dX4_conclude_28 : decode cX4_conclude 28 = .ok (.iload_n 3, 1) := by decide +kernel
theorem dX4_conclude_29 : decode cX4_conclude 29 = .ok (.iastore, 1) := by decide +kernel
theorem dX4_conclude_30 : decode cX4_conclude 30 = .ok (.aload_n 0, 1) := by decide +kernel
theorem dX4_conclude_31 : decode cX4_conclude 31 = .ok (.getfield 36, 3) := by decide +kernel
theorem dX4_conclude_34 : decode cX4_conclude 34 = .ok (.aload_n 0, 1) := by decide +kernel
theorem dX4_conclude_35 : decode cX4_conclude 35 = .ok (.getfield 55, 3) := by decide +kernel
theorem dX4_conclude_38 : decode cX4_conclude 38 = .ok (.iload 4, 2) := by decide +kernel
theorem dX4_conclude_40 : decode cX4_conclude 40 = .ok (.iastore, 1) := by decide +kernel
theorem dX4_conclude_41 : decode cX4_conclude 41 = .ok (.aload_n 0, 1) := by decide +kernel
theorem dX4_conclude_42 : decode cX4_conclude 42 = .ok (.getfield 39, 3) := by decide +kernel
theorem dX4_conclude_45 : decode cX4_conclude 45 = .ok (.aload_n 0, 1) := by decide +kernel
theorem dX4_conclude_46 : decode cX4_conclude 46 = .ok (.getfield 55, 3) := by decide +kernel
theorem dX4_conclude_49 : decode cX4_conclude 49 = .ok (.aload_n 0, 1) := by decide +kernel
theorem dX4_conclude_50 : decode cX4_conclude 50 = .ok (.getfield 58, 3) := by decide +kernel
theorem dX4_conclude_53 : decode cX4_conclude 53 = .ok (.iload 5, 2) := by decide +kernel
theorem dX4_conclude_55 : decode cX4_conclude 55 = .ok (.iadd, 1) := by decide +kernel
theorem dX4_conclude_56 : decode cX4_conclude 56 = .ok (.iastore, 1) := by decide +kernel
theorem dX4_conclude_57 : decode cX4_conclude 57 = .ok (.aload_n 0, 1) := by decide +kernel
theorem dX4_conclude_58 : decode cX4_conclude 58 = .ok (.dup, 1) := by decide +kernel
theorem dX4_conclude_59 : decode cX4_conclude 59 = .ok (.getfield 55, 3) := by decide +kernel
theorem dX4_conclude_62 : decode cX4_conclude 62 = .ok (.iconst 1, 1) := by decide +kernel
theorem dX4_conclude_63 : decode cX4_conclude 63 = .ok (.iadd, 1) := by decide +kernel
theorem dX4_conclude_64 : decode cX4_conclude 64 = .ok (.putfield 55, 3) := by decide +kernel
theorem dX4_conclude_67 : decode cX4_conclude 67 = .ok (.aload_n 0, 1) := by decide +kernel
theorem dX4_conclude_68 : decode cX4_conclude 68 = .ok (.getfield 55, 3) := by decide +kernel
theorem dX4_conclude_71 : decode cX4_conclude 71 = .ok (.iconst 1, 1) := by decide +kernel
theorem dX4_conclude_72 : decode cX4_conclude 72 = .ok (.isub, 1) := by decide +kernel
theorem dX4_conclude_73 : decode cX4_conclude 73 = .ok (.ireturn, 1) := by decide +kernel
theorem dX4_replaceQuote_0 : decode cX4_replaceQuote 0 = .ok (.aload_n 0, 1) := by decide +kernel
theorem dX4_replaceQuote_1 : decode cX4_replaceQuote 1 = .ok (.getfield 15, 3) := by decide +kernel
theorem dX4_replaceQuote_4 : decode cX4_replaceQuote 4 = .ok (.iload_n 1, 1) := by decide +kernel
theorem dX4_replaceQuote_5 : decode cX4_replaceQuote 5 = .ok (.iaload, 1) := by decide +kernel
theorem dX4_replaceQuote_6 : decode cX4_replaceQuote 6 = .ok (.istore_n 3, 1) := by decide +kernel
theorem dX4_replaceQuote_7 : decode cX4_replaceQuote 7 = .ok (.aload_n 0, 1) := by decide +kernel
theorem dX4_replaceQuote_8 : decode cX4_replaceQuote 8 = .ok (.getfield 15, 3) := by decide +kernel
theorem dX4_replaceQuote_11 : decode cX4_replaceQuote 11 = .ok (.iload_n 1, 1) := by decide +kernel
theorem dX4_replaceQuote_12 : decode cX4_replaceQuote 12 = .ok (.iload_n 2, 1) := by decide +kernel
theorem dX4_replaceQuote_13 : decode cX4_replaceQuote 13 = .ok (.iastore, 1) := by decide +kernel
theorem dX4_replaceQuote_14 : decode cX4_replaceQuote 14 = .ok (.iload_n 3, 1) := by decide +kernel
theorem dX4_replaceQuote_15 : decode cX4_replaceQuote 15 = .ok (.ireturn, 1) := by decide +kernel
theorem dX4_bringMoney_0 : decode cX4_bringMoney 0 = .ok (.aload_n 0, 1) := by decide +kernel
theorem dX4_bringMoney_1 : decode cX4_bringMoney 1 = .ok (.getfield 21, 3) := by decide +kernel
theorem dX4_bringMoney_4 : decode cX4_bringMoney 4 = .ok (.iload_n 1, 1) := by decide +kernel
theorem dX4_bringMoney_5 : decode cX4_bringMoney 5 = .ok (.dup2, 1) := by decide +kernel
theorem dX4_bringMoney_6 : decode cX4_bringMoney 6 = .ok (.iaload, 1) := by decide +kernel
theorem dX4_bringMoney_7 : decode cX4_bringMoney 7 = .ok (.iload_n 2, 1) := by decide +kernel
theorem dX4_bringMoney_8 : decode cX4_bringMoney 8 = .ok (.iadd, 1) := by decide +kernel
theorem dX4_bringMoney_9 : decode cX4_bringMoney 9 = .ok (.iastore, 1) := by decide +kernel
theorem dX4_bringMoney_10 : decode cX4_bringMoney 10 = .ok (.aload_n 0, 1) := by decide +kernel
theorem dX4_bringMoney_11 : decode cX4_bringMoney 11 = .ok (.dup, 1) := by decide +kernel
theorem dX4_bringMoney_12 : decode cX4_bringMoney 12 = .ok (.getfield 67, 3) := by decide +kernel
theorem dX4_bringMoney_15 : decode cX4_bringMoney 15 = .ok (.iload_n 2, 1) := by decide +kernel
theorem dX4_bringMoney_16 : decode cX4_bringMoney 16 = .ok (.i2l, 1) := by decide +kernel
theorem dX4_bringMoney_17 : decode cX4_bringMoney 17 = .ok (.ladd, 1) := by decide +kernel
theorem dX4_bringMoney_18 : decode cX4_bringMoney 18 = .ok (.putfield 67, 3) := by decide +kernel
theorem dX4_bringMoney_21 : decode cX4_bringMoney 21 = .ok (.aload_n 0, 1) := by decide +kernel
theorem dX4_bringMoney_22 : decode cX4_bringMoney 22 = .ok (.getfield 21, 3) := by decide +kernel
theorem dX4_bringMoney_25 : decode cX4_bringMoney 25 = .ok (.iload_n 1, 1) := by decide +kernel
theorem dX4_bringMoney_26 : decode cX4_bringMoney 26 = .ok (.iaload, 1) := by decide +kernel
theorem dX4_bringMoney_27 : decode cX4_bringMoney 27 = .ok (.ireturn, 1) := by decide +kernel
theorem dX4_takeMoney_0 : decode cX4_takeMoney 0 = .ok (.aload_n 0, 1) := by decide +kernel
theorem dX4_takeMoney_1 : decode cX4_takeMoney 1 = .ok (.getfield 21, 3) := by decide +kernel
theorem dX4_takeMoney_4 : decode cX4_takeMoney 4 = .ok (.iload_n 1, 1) := by decide +kernel
theorem dX4_takeMoney_5 : decode cX4_takeMoney 5 = .ok (.dup2, 1) := by decide +kernel
theorem dX4_takeMoney_6 : decode cX4_takeMoney 6 = .ok (.iaload, 1) := by decide +kernel
theorem dX4_takeMoney_7 : decode cX4_takeMoney 7 = .ok (.iload_n 2, 1) := by decide +kernel
theorem dX4_takeMoney_8 : decode cX4_takeMoney 8 = .ok (.isub, 1) := by decide +kernel
theorem dX4_takeMoney_9 : decode cX4_takeMoney 9 = .ok (.iastore, 1) := by decide +kernel
theorem dX4_takeMoney_10 : decode cX4_takeMoney 10 = .ok (.aload_n 0, 1) := by decide +kernel
theorem dX4_takeMoney_11 : decode cX4_takeMoney 11 = .ok (.dup, 1) := by decide +kernel
theorem dX4_takeMoney_12 : decode cX4_takeMoney 12 = .ok (.getfield 71, 3) := by decide +kernel
theorem dX4_takeMoney_15 : decode cX4_takeMoney 15 = .ok (.iload_n 2, 1) := by decide +kernel
theorem dX4_takeMoney_16 : decode cX4_takeMoney 16 = .ok (.i2l, 1) := by decide +kernel
theorem dX4_takeMoney_17 : decode cX4_takeMoney 17 = .ok (.ladd, 1) := by decide +kernel
theorem dX4_takeMoney_18 : decode cX4_takeMoney 18 = .ok (.putfield 71, 3) := by decide +kernel
theorem dX4_takeMoney_21 : decode cX4_takeMoney 21 = .ok (.aload_n 0, 1) := by decide +kernel
theorem dX4_takeMoney_22 : decode cX4_takeMoney 22 = .ok (.getfield 21, 3) := by decide +kernel
theorem dX4_takeMoney_25 : decode cX4_takeMoney 25 = .ok (.iload_n 1, 1) := by decide +kernel
theorem dX4_takeMoney_26 : decode cX4_takeMoney 26 = .ok (.iaload, 1) := by decide +kernel
theorem dX4_takeMoney_27 : decode cX4_takeMoney 27 = .ok (.ireturn, 1) := by decide +kernel
theorem dX4_giveToFund_0 : decode cX4_giveToFund 0 = .ok (.aload_n 0, 1) := by decide +kernel
theorem dX4_giveToFund_1 : decode cX4_giveToFund 1 = .ok (.getfield 21, 3) := by decide +kernel
theorem dX4_giveToFund_4 : decode cX4_giveToFund 4 = .ok (.iload_n 1, 1) := by decide +kernel
theorem dX4_giveToFund_5 : decode cX4_giveToFund 5 = .ok (.dup2, 1) := by decide +kernel
theorem dX4_giveToFund_6 : decode cX4_giveToFund 6 = .ok (.iaload, 1) := by decide +kernel
theorem dX4_giveToFund_7 : decode cX4_giveToFund 7 = .ok (.iload_n 2, 1) := by decide +kernel
theorem dX4_giveToFund_8 : decode cX4_giveToFund 8 = .ok (.isub, 1) := by decide +kernel
theorem dX4_giveToFund_9 : decode cX4_giveToFund 9 = .ok (.iastore, 1) := by decide +kernel
theorem dX4_giveToFund_10 : decode cX4_giveToFund 10 = .ok (.aload_n 0, 1) := by decide +kernel
theorem dX4_giveToFund_11 : decode cX4_giveToFund 11 = .ok (.dup, 1) := by decide +kernel
theorem dX4_giveToFund_12 : decode cX4_giveToFund 12 = .ok (.getfield 61, 3) := by decide +kernel
theorem dX4_giveToFund_15 : decode cX4_giveToFund 15 = .ok (.iload_n 2, 1) := by decide +kernel
theorem dX4_giveToFund_16 : decode cX4_giveToFund 16 = .ok (.iadd, 1) := by decide +kernel
theorem dX4_giveToFund_17 : decode cX4_giveToFund 17 = .ok (.putfield 61, 3) := by decide +kernel
theorem dX4_giveToFund_20 : decode cX4_giveToFund 20 = .ok (.aload_n 0, 1) := by decide +kernel
theorem dX4_giveToFund_21 : decode cX4_giveToFund 21 = .ok (.getfield 61, 3) := by decide +kernel
theorem dX4_giveToFund_24 : decode cX4_giveToFund 24 = .ok (.ireturn, 1) := by decide +kernel
theorem dX4_settleVariations_0 : decode cX4_settleVariations 0 = .ok (.iconst 0, 1) := by decide +kernel
theorem dX4_settleVariations_1 : decode cX4_settleVariations 1 = .ok (.istore_n 1, 1) := by decide +kernel
theorem dX4_settleVariations_2 : decode cX4_settleVariations 2 = .ok (.iload_n 1, 1) := by decide +kernel
theorem dX4_settleVariations_3 : decode cX4_settleVariations 3 = .ok (.aload_n 0, 1) := by decide +kernel
theorem dX4_settleVariations_4 : decode cX4_settleVariations 4 = .ok (.getfield 52, 3) := by decide +kernel
theorem dX4_settleVariations_7 : decode cX4_settleVariations 7 = .ok (.if_icmp .ge 23, 3) := by decide +kernel
theorem dX4_settleVariations_10 : decode cX4_settleVariations 10 = .ok (.aload_n 0, 1) := by decide +kernel
theorem dX4_settleVariations_11 : decode cX4_settleVariations 11 = .ok (.getfield 21, 3) := by decide +kernel
theorem dX4_settleVariations_14 : decode cX4_settleVariations 14 = .ok (.iload_n 1, 1) := by decide +kernel
theorem dX4_settleVariations_15 : decode cX4_settleVariations 15 = .ok (.dup2, 1) := by decide +kernel
theorem dX4_settleVariations_16 : decode cX4_settleVariations 16 = .ok (.iaload, 1) := by decide +kernel
theorem dX4_settleVariations_17 : decode cX4_settleVariations 17 = .ok (.aload_n 0, 1) := by decide +kernel
theorem dX4_settleVariations_18 : decode cX4_settleVariations 18 = .ok (.iload_n 1, 1) := by decide +kernel
theorem dX4_settleVariations_19 : decode cX4_settleVariations 19 = .ok (.invokevirtual 96, 3) := by decide +kernel
theorem dX4_settleVariations_22 : decode cX4_settleVariations 22 = .ok (.iadd, 1) := by decide +kernel
theorem dX4_settleVariations_23 : decode cX4_settleVariations 23 = .ok (.iastore, 1) := by decide +kernel
theorem dX4_settleVariations_24 : decode cX4_settleVariations 24 = .ok (.iinc 1 1, 3) := by decide +kernel
theorem dX4_settleVariations_27 : decode cX4_settleVariations 27 = .ok (.goto (-25), 3) := by decide +kernel
theorem dX4_settleVariations_30 : decode cX4_settleVariations 30 = .ok (.iconst 0, 1) := by decide +kernel
theorem dX4_settleVariations_31 : decode cX4_settleVariations 31 = .ok (.istore_n 1, 1) := by decide +kernel
theorem dX4_settleVariations_32 : decode cX4_settleVariations 32 = .ok (.iload_n 1, 1) := by decide +kernel
theorem dX4_settleVariations_33 : decode cX4_settleVariations 33 = .ok (.aload_n 0, 1) := by decide +kernel
theorem dX4_settleVariations_34 : decode cX4_settleVariations 34 = .ok (.getfield 42, 3) := by decide +kernel
theorem dX4_settleVariations_37 : decode cX4_settleVariations 37 = .ok (.if_icmp .ge 21, 3) := by decide +kernel
theorem dX4_settleVariations_40 : decode cX4_settleVariations 40 = .ok (.aload_n 0, 1) := by decide +kernel
theorem dX4_settleVariations_41 : decode cX4_settleVariations 41 = .ok (.getfield 9, 3) := by decide +kernel
theorem dX4_settleVariations_44 : decode cX4_settleVariations 44 = .ok (.iload_n 1, 1) := by decide +kernel
theorem dX4_settleVariations_45 : decode cX4_settleVariations 45 = .ok (.aload_n 0, 1) := by decide +kernel
theorem dX4_settleVariations_46 : decode cX4_settleVariations 46 = .ok (.getfield 15, 3) := by decide +kernel
theorem dX4_settleVariations_49 : decode cX4_settleVariations 49 = .ok (.iload_n 1, 1) := by decide +kernel
theorem dX4_settleVariations_50 : decode cX4_settleVariations 50 = .ok (.iaload, 1) := by decide +kernel
theorem dX4_settleVariations_51 : decode cX4_settleVariations 51 = .ok (.iastore, 1) := by decide +kernel
theorem dX4_settleVariations_52 : decode cX4_settleVariations 52 = .ok (.iinc 1 1, 3) := by decide +kernel
theorem dX4_settleVariations_55 : decode cX4_settleVariations 55 = .ok (.goto (-23), 3) := by decide +kernel
theorem dX4_settleVariations_58 : decode cX4_settleVariations 58 = .ok (.return_, 1) := by decide +kernel
theorem dX4_endDay_0 : decode cX4_endDay 0 = .ok (.aload_n 0, 1) := by decide +kernel
theorem dX4_endDay_1 : decode cX4_endDay 1 = .ok (.dup, 1) := by decide +kernel
theorem dX4_endDay_2 : decode cX4_endDay 2 = .ok (.getfield 58, 3) := by decide +kernel
theorem dX4_endDay_5 : decode cX4_endDay 5 = .ok (.iconst 1, 1) := by decide +kernel
theorem dX4_endDay_6 : decode cX4_endDay 6 = .ok (.iadd, 1) := by decide +kernel
theorem dX4_endDay_7 : decode cX4_endDay 7 = .ok (.putfield 58, 3) := by decide +kernel
theorem dX4_endDay_10 : decode cX4_endDay 10 = .ok (.aload_n 0, 1) := by decide +kernel
theorem dX4_endDay_11 : decode cX4_endDay 11 = .ok (.getfield 55, 3) := by decide +kernel
theorem dX4_endDay_14 : decode cX4_endDay 14 = .ok (.iconst 1, 1) := by decide +kernel
theorem dX4_endDay_15 : decode cX4_endDay 15 = .ok (.isub, 1) := by decide +kernel
theorem dX4_endDay_16 : decode cX4_endDay 16 = .ok (.istore_n 1, 1) := by decide +kernel
theorem dX4_endDay_17 : decode cX4_endDay 17 = .ok (.iload_n 1, 1) := by decide +kernel
theorem dX4_endDay_18 : decode cX4_endDay 18 = .ok (.ifCond .lt 27, 3) := by decide +kernel
theorem dX4_endDay_21 : decode cX4_endDay 21 = .ok (.aload_n 0, 1) := by decide +kernel
theorem dX4_endDay_22 : decode cX4_endDay 22 = .ok (.getfield 39, 3) := by decide +kernel
theorem dX4_endDay_25 : decode cX4_endDay 25 = .ok (.iload_n 1, 1) := by decide +kernel
theorem dX4_endDay_26 : decode cX4_endDay 26 = .ok (.iaload, 1) := by decide +kernel
theorem dX4_endDay_27 : decode cX4_endDay 27 = .ok (.aload_n 0, 1) := by decide +kernel
theorem dX4_endDay_28 : decode cX4_endDay 28 = .ok (.getfield 58, 3) := by decide +kernel
theorem dX4_endDay_31 : decode cX4_endDay 31 = .ok (.if_icmp .ne 8, 3) := by decide +kernel
theorem dX4_endDay_34 : decode cX4_endDay 34 = .ok (.aload_n 0, 1) := by decide +kernel
theorem dX4_endDay_35 : decode cX4_endDay 35 = .ok (.iload_n 1, 1) := by decide +kernel
theorem dX4_endDay_36 : decode cX4_endDay 36 = .ok (.invokevirtual 99, 3) := by decide +kernel
theorem dX4_endDay_39 : decode cX4_endDay 39 = .ok (.iinc 1 (-1), 3) := by decide +kernel
theorem dX4_endDay_42 : decode cX4_endDay 42 = .ok (.goto (-25), 3) := by decide +kernel
theorem dX4_endDay_45 : decode cX4_endDay 45 = .ok (.return_, 1) := by decide +kernel
theorem dX4_callTraders_0 : decode cX4_callTraders 0 = .ok (.iconst 0, 1) := by decide +kernel
theorem dX4_callTraders_1 : decode cX4_callTraders 1 = .ok (.istore_n 1, 1) := by decide +kernel
theorem dX4_callTraders_2 : decode cX4_callTraders 2 = .ok (.iconst 0, 1) := by decide +kernel
theorem dX4_callTraders_3 : decode cX4_callTraders 3 = .ok (.istore_n 2, 1) := by decide +kernel
theorem dX4_callTraders_4 : decode cX4_callTraders 4 = .ok (.iload_n 2, 1) := by decide +kernel
theorem dX4_callTraders_5 : decode cX4_callTraders 5 = .ok (.aload_n 0, 1) := by decide +kernel
theorem dX4_callTraders_6 : decode cX4_callTraders 6 = .ok (.getfield 52, 3) := by decide +kernel
theorem dX4_callTraders_9 : decode cX4_callTraders 9 = .ok (.if_icmp .ge 72, 3) := by decide +kernel
theorem dX4_callTraders_12 : decode cX4_callTraders 12 = .ok (.aload_n 0, 1) := by decide +kernel
theorem dX4_callTraders_13 : decode cX4_callTraders 13 = .ok (.getfield 24, 3) := by decide +kernel
theorem dX4_callTraders_16 : decode cX4_callTraders 16 = .ok (.iload_n 2, 1) := by decide +kernel
theorem dX4_callTraders_17 : decode cX4_callTraders 17 = .ok (.iaload, 1) := by decide +kernel
theorem dX4_callTraders_18 : decode cX4_callTraders 18 = .ok (.iconst 2, 1) := by decide +kernel
theorem dX4_callTraders_19 : decode cX4_callTraders 19 = .ok (.if_icmp .ne 6, 3) := by decide +kernel
theorem dX4_callTraders_22 : decode cX4_callTraders 22 = .ok (.goto 53, 3) := by decide +kernel
theorem dX4_callTraders_25 : decode cX4_callTraders 25 = .ok (.aload_n 0, 1) := by decide +kernel
theorem dX4_callTraders_26 : decode cX4_callTraders 26 = .ok (.getfield 21, 3) := by decide +kernel
theorem dX4_callTraders_29 : decode cX4_callTraders 29 = .ok (.iload_n 2, 1) := by decide +kernel
theorem dX4_callTraders_30 : decode cX4_callTraders 30 = .ok (.iaload, 1) := by decide +kernel
theorem dX4_callTraders_31 : decode cX4_callTraders 31 = .ok (.aload_n 0, 1) := by decide +kernel
theorem dX4_callTraders_32 : decode cX4_callTraders 32 = .ok (.iload_n 2, 1) := by decide +kernel
theorem dX4_callTraders_33 : decode cX4_callTraders 33 = .ok (.invokevirtual 92, 3) := by decide +kernel
theorem dX4_callTraders_36 : decode cX4_callTraders 36 = .ok (.if_icmp .lt 13, 3) := by decide +kernel
theorem dX4_callTraders_39 : decode cX4_callTraders 39 = .ok (.aload_n 0, 1) := by decide +kernel
theorem dX4_callTraders_40 : decode cX4_callTraders 40 = .ok (.getfield 24, 3) := by decide +kernel
theorem dX4_callTraders_43 : decode cX4_callTraders 43 = .ok (.iload_n 2, 1) := by decide +kernel
theorem dX4_callTraders_44 : decode cX4_callTraders 44 = .ok (.iconst 0, 1) := by decide +kernel
theorem dX4_callTraders_45 : decode cX4_callTraders 45 = .ok (.iastore, 1) := by decide +kernel
theorem dX4_callTraders_46 : decode cX4_callTraders 46 = .ok (.goto 29, 3) := by decide +kernel
theorem dX4_callTraders_49 : decode cX4_callTraders 49 = .ok (.aload_n 0, 1) := by decide +kernel
theorem dX4_callTraders_50 : decode cX4_callTraders 50 = .ok (.getfield 24, 3) := by decide +kernel
theorem dX4_callTraders_53 : decode cX4_callTraders 53 = .ok (.iload_n 2, 1) := by decide +kernel
theorem dX4_callTraders_54 : decode cX4_callTraders 54 = .ok (.iaload, 1) := by decide +kernel
theorem dX4_callTraders_55 : decode cX4_callTraders 55 = .ok (.iconst 1, 1) := by decide +kernel
theorem dX4_callTraders_56 : decode cX4_callTraders 56 = .ok (.if_icmp .ne 12, 3) := by decide +kernel
theorem dX4_callTraders_59 : decode cX4_callTraders 59 = .ok (.iload_n 1, 1) := by decide +kernel
theorem dX4_callTraders_60 : decode cX4_callTraders 60 = .ok (.iconst 1, 1) := by decide +kernel
theorem dX4_callTraders_61 : decode cX4_callTraders 61 = .ok (.iload_n 2, 1) := by decide +kernel
theorem dX4_callTraders_62 : decode cX4_callTraders 62 = .ok (.ishl, 1) := by decide +kernel
theorem dX4_callTraders_63 : decode cX4_callTraders 63 = .ok (.ior, 1) := by decide +kernel
theorem dX4_callTraders_64 : decode cX4_callTraders 64 = .ok (.istore_n 1, 1) := by decide +kernel
theorem dX4_callTraders_65 : decode cX4_callTraders 65 = .ok (.goto 10, 3) := by decide +kernel
theorem dX4_callTraders_68 : decode cX4_callTraders 68 = .ok (.aload_n 0, 1) := by decide +kernel
theorem dX4_callTraders_69 : decode cX4_callTraders 69 = .ok (.getfield 24, 3) := by decide +kernel
theorem dX4_callTraders_72 : decode cX4_callTraders 72 = .ok (.iload_n 2, 1) := by decide +kernel
theorem dX4_callTraders_73 : decode cX4_callTraders 73 = .ok (.iconst 1, 1) := by decide +kernel
theorem dX4_callTraders_74 : decode cX4_callTraders 74 = .ok (.iastore, 1) := by decide +kernel
theorem dX4_callTraders_75 : decode cX4_callTraders 75 = .ok (.iinc 2 1, 3) := by decide +kernel
theorem dX4_callTraders_78 : decode cX4_callTraders 78 = .ok (.goto (-74), 3) := by decide +kernel
theorem dX4_callTraders_81 : decode cX4_callTraders 81 = .ok (.iload_n 1, 1) := by decide +kernel
theorem dX4_callTraders_82 : decode cX4_callTraders 82 = .ok (.ireturn, 1) := by decide +kernel
theorem dX4_replaceTrader_0 : decode cX4_replaceTrader 0 = .ok (.iconst 0, 1) := by decide +kernel
theorem dX4_replaceTrader_1 : decode cX4_replaceTrader 1 = .ok (.istore 4, 2) := by decide +kernel
theorem dX4_replaceTrader_3 : decode cX4_replaceTrader 3 = .ok (.iload 4, 2) := by decide +kernel
theorem dX4_replaceTrader_5 : decode cX4_replaceTrader 5 = .ok (.aload_n 0, 1) := by decide +kernel
theorem dX4_replaceTrader_6 : decode cX4_replaceTrader 6 = .ok (.getfield 55, 3) := by decide +kernel
theorem dX4_replaceTrader_9 : decode cX4_replaceTrader 9 = .ok (.if_icmp .ge 64, 3) := by decide +kernel
theorem dX4_replaceTrader_12 : decode cX4_replaceTrader 12 = .ok (.aload_n 0, 1) := by decide +kernel
theorem dX4_replaceTrader_13 : decode cX4_replaceTrader 13 = .ok (.getfield 33, 3) := by decide +kernel
theorem dX4_replaceTrader_16 : decode cX4_replaceTrader 16 = .ok (.iload 4, 2) := by decide +kernel
theorem dX4_replaceTrader_18 : decode cX4_replaceTrader 18 = .ok (.iaload, 1) := by decide +kernel
theorem dX4_replaceTrader_19 : decode cX4_replaceTrader 19 = .ok (.iload_n 3, 1) := by decide +kernel
theorem dX4_replaceTrader_20 : decode cX4_replaceTrader 20 = .ok (.if_icmp .eq 6, 3) := by decide +kernel
theorem dX4_replaceTrader_23 : decode cX4_replaceTrader 23 = .ok (.goto 44, 3) := by decide +kernel
theorem dX4_replaceTrader_26 : decode cX4_replaceTrader 26 = .ok (.aload_n 0, 1) := by decide +kernel
theorem dX4_replaceTrader_27 : decode cX4_replaceTrader 27 = .ok (.getfield 27, 3) := by decide +kernel
theorem dX4_replaceTrader_30 : decode cX4_replaceTrader 30 = .ok (.iload 4, 2) := by decide +kernel
theorem dX4_replaceTrader_32 : decode cX4_replaceTrader 32 = .ok (.iaload, 1) := by decide +kernel
theorem dX4_replaceTrader_33 : decode cX4_replaceTrader 33 = .ok (.iload_n 1, 1) := by decide +kernel
theorem dX4_replaceTrader_34 : decode cX4_replaceTrader 34 = .ok (.if_icmp .ne 14, 3) := by decide +kernel
theorem dX4_replaceTrader_37 : decode cX4_replaceTrader 37 = .ok (.aload_n 0, 1) := by decide +kernel
theorem dX4_replaceTrader_38 : decode cX4_replaceTrader 38 = .ok (.getfield 27, 3) := by decide +kernel
theorem dX4_replaceTrader_41 : decode cX4_replaceTrader 41 = .ok (.iload 4, 2) := by decide +kernel
theorem dX4_replaceTrader_43 : decode cX4_replaceTrader 43 = .ok (.iload_n 2, 1) := by decide +kernel
theorem dX4_replaceTrader_44 : decode cX4_replaceTrader 44 = .ok (.iastore, 1) := by decide +kernel
theorem dX4_replaceTrader_45 : decode cX4_replaceTrader 45 = .ok (.goto 22, 3) := by decide +kernel
theorem dX4_replaceTrader_48 : decode cX4_replaceTrader 48 = .ok (.aload_n 0, 1) := by decide +kernel
theorem dX4_replaceTrader_49 : decode cX4_replaceTrader 49 = .ok (.getfield 30, 3) := by decide +kernel
theorem dX4_replaceTrader_52 : decode cX4_replaceTrader 52 = .ok (.iload 4, 2) := by decide +kernel
theorem dX4_replaceTrader_54 : decode cX4_replaceTrader 54 = .ok (.iaload, 1) := by decide +kernel
theorem dX4_replaceTrader_55 : decode cX4_replaceTrader 55 = .ok (.iload_n 1, 1) := by decide +kernel
theorem dX4_replaceTrader_56 : decode cX4_replaceTrader 56 = .ok (.if_icmp .ne 11, 3) := by decide +kernel
theorem dX4_replaceTrader_59 : decode cX4_replaceTrader 59 = .ok (.aload_n 0, 1) := by decide +kernel
theorem dX4_replaceTrader_60 : decode cX4_replaceTrader 60 = .ok (.getfield 30, 3) := by decide +kernel
theorem dX4_replaceTrader_63 : decode cX4_replaceTrader 63 = .ok (.iload 4, 2) := by decide +kernel
theorem dX4_replaceTrader_65 : decode cX4_replaceTrader 65 = .ok (.iload_n 2, 1) := by decide +kernel
theorem dX4_replaceTrader_66 : decode cX4_replaceTrader 66 = .ok (.iastore, 1) := by decide +kernel
theorem dX4_replaceTrader_67 : decode cX4_replaceTrader 67 = .ok (.iinc 4 1, 3) := by decide +kernel
theorem dX4_replaceTrader_70 : decode cX4_replaceTrader 70 = .ok (.goto (-67), 3) := by decide +kernel
theorem dX4_replaceTrader_73 : decode cX4_replaceTrader 73 = .ok (.return_, 1) := by decide +kernel
theorem dX4_endContractsOf_0 : decode cX4_endContractsOf 0 = .ok (.aload_n 0, 1) := by decide +kernel
theorem dX4_endContractsOf_1 : decode cX4_endContractsOf 1 = .ok (.getfield 55, 3) := by decide +kernel
theorem dX4_endContractsOf_4 : decode cX4_endContractsOf 4 = .ok (.iconst 1, 1) := by decide +kernel
theorem dX4_endContractsOf_5 : decode cX4_endContractsOf 5 = .ok (.isub, 1) := by decide +kernel
theorem dX4_endContractsOf_6 : decode cX4_endContractsOf 6 = .ok (.istore_n 2, 1) := by decide +kernel
theorem dX4_endContractsOf_7 : decode cX4_endContractsOf 7 = .ok (.iload_n 2, 1) := by decide +kernel
theorem dX4_endContractsOf_8 : decode cX4_endContractsOf 8 = .ok (.ifCond .lt 38, 3) := by decide +kernel
theorem dX4_endContractsOf_11 : decode cX4_endContractsOf 11 = .ok (.aload_n 0, 1) := by decide +kernel
theorem dX4_endContractsOf_12 : decode cX4_endContractsOf 12 = .ok (.iload_n 2, 1) := by decide +kernel
theorem dX4_endContractsOf_13 : decode cX4_endContractsOf 13 = .ok (.iload_n 1, 1) := by decide +kernel
theorem dX4_endContractsOf_14 : decode cX4_endContractsOf 14 = .ok (.invokevirtual 103, 3) := by decide +kernel
theorem dX4_endContractsOf_17 : decode cX4_endContractsOf 17 = .ok (.ifCond .ne 18, 3) := by decide +kernel
theorem dX4_endContractsOf_20 : decode cX4_endContractsOf 20 = .ok (.aload_n 0, 1) := by decide +kernel
theorem dX4_endContractsOf_21 : decode cX4_endContractsOf 21 = .ok (.getfield 27, 3) := by decide +kernel
theorem dX4_endContractsOf_24 : decode cX4_endContractsOf 24 = .ok (.iload_n 2, 1) := by decide +kernel
theorem dX4_endContractsOf_25 : decode cX4_endContractsOf 25 = .ok (.iaload, 1) := by decide +kernel
theorem dX4_endContractsOf_26 : decode cX4_endContractsOf 26 = .ok (.aload_n 0, 1) := by decide +kernel
theorem dX4_endContractsOf_27 : decode cX4_endContractsOf 27 = .ok (.getfield 30, 3) := by decide +kernel
theorem dX4_endContractsOf_30 : decode cX4_endContractsOf 30 = .ok (.iload_n 2, 1) := by decide +kernel
theorem dX4_endContractsOf_31 : decode cX4_endContractsOf 31 = .ok (.iaload, 1) := by decide +kernel
theorem dX4_endContractsOf_32 : decode cX4_endContractsOf 32 = .ok (.if_icmp .ne 8, 3) := by decide +kernel
theorem dX4_endContractsOf_35 : decode cX4_endContractsOf 35 = .ok (.aload_n 0, 1) := by decide +kernel
theorem dX4_endContractsOf_36 : decode cX4_endContractsOf 36 = .ok (.iload_n 2, 1) := by decide +kernel
theorem dX4_endContractsOf_37 : decode cX4_endContractsOf 37 = .ok (.invokevirtual 99, 3) := by decide +kernel
theorem dX4_endContractsOf_40 : decode cX4_endContractsOf 40 = .ok (.iinc 2 (-1), 3) := by decide +kernel
theorem dX4_endContractsOf_43 : decode cX4_endContractsOf 43 = .ok (.goto (-36), 3) := by decide +kernel
theorem dX4_endContractsOf_46 : decode cX4_endContractsOf 46 = .ok (.return_, 1) := by decide +kernel
theorem dX4_closeAccount_0 : decode cX4_closeAccount 0 = .ok (.aload_n 0, 1) := by decide +kernel
theorem dX4_closeAccount_1 : decode cX4_closeAccount 1 = .ok (.getfield 21, 3) := by decide +kernel
theorem dX4_closeAccount_4 : decode cX4_closeAccount 4 = .ok (.iload_n 1, 1) := by decide +kernel
theorem dX4_closeAccount_5 : decode cX4_closeAccount 5 = .ok (.iaload, 1) := by decide +kernel
theorem dX4_closeAccount_6 : decode cX4_closeAccount 6 = .ok (.ifCond .le 21, 3) := by decide +kernel
theorem dX4_closeAccount_9 : decode cX4_closeAccount 9 = .ok (.aload_n 0, 1) := by decide +kernel
theorem dX4_closeAccount_10 : decode cX4_closeAccount 10 = .ok (.dup, 1) := by decide +kernel
theorem dX4_closeAccount_11 : decode cX4_closeAccount 11 = .ok (.getfield 61, 3) := by decide +kernel
theorem dX4_closeAccount_14 : decode cX4_closeAccount 14 = .ok (.aload_n 0, 1) := by decide +kernel
theorem dX4_closeAccount_15 : decode cX4_closeAccount 15 = .ok (.getfield 21, 3) := by decide +kernel
theorem dX4_closeAccount_18 : decode cX4_closeAccount 18 = .ok (.iload_n 1, 1) := by decide +kernel
theorem dX4_closeAccount_19 : decode cX4_closeAccount 19 = .ok (.iaload, 1) := by decide +kernel
theorem dX4_closeAccount_20 : decode cX4_closeAccount 20 = .ok (.iadd, 1) := by decide +kernel
theorem dX4_closeAccount_21 : decode cX4_closeAccount 21 = .ok (.putfield 61, 3) := by decide +kernel
theorem dX4_closeAccount_24 : decode cX4_closeAccount 24 = .ok (.goto 42, 3) := by decide +kernel
theorem dX4_closeAccount_27 : decode cX4_closeAccount 27 = .ok (.aload_n 0, 1) := by decide +kernel
theorem dX4_closeAccount_28 : decode cX4_closeAccount 28 = .ok (.getfield 21, 3) := by decide +kernel
theorem dX4_closeAccount_31 : decode cX4_closeAccount 31 = .ok (.iload_n 1, 1) := by decide +kernel
theorem dX4_closeAccount_32 : decode cX4_closeAccount 32 = .ok (.iaload, 1) := by decide +kernel
theorem dX4_closeAccount_33 : decode cX4_closeAccount 33 = .ok (.ineg, 1) := by decide +kernel
theorem dX4_closeAccount_34 : decode cX4_closeAccount 34 = .ok (.istore_n 2, 1) := by decide +kernel
theorem dX4_closeAccount_35 : decode cX4_closeAccount 35 = .ok (.iload_n 2, 1) := by decide +kernel
theorem dX4_closeAccount_36 : decode cX4_closeAccount 36 = .ok (.aload_n 0, 1) := by decide +kernel
theorem dX4_closeAccount_37 : decode cX4_closeAccount 37 = .ok (.getfield 61, 3) := by decide +kernel
theorem dX4_closeAccount_40 : decode cX4_closeAccount 40 = .ok (.invokestatic 106, 3) := by decide +kernel
theorem dX4_closeAccount_43 : decode cX4_closeAccount 43 = .ok (.istore_n 3, 1) := by decide +kernel
theorem dX4_closeAccount_44 : decode cX4_closeAccount 44 = .ok (.aload_n 0, 1) := by decide +kernel
theorem dX4_closeAccount_45 : decode cX4_closeAccount 45 = .ok (.dup, 1) := by decide +kernel
theorem dX4_closeAccount_46 : decode cX4_closeAccount 46 = .ok (.getfield 61, 3) := by decide +kernel
theorem dX4_closeAccount_49 : decode cX4_closeAccount 49 = .ok (.iload_n 3, 1) := by decide +kernel
theorem dX4_closeAccount_50 : decode cX4_closeAccount 50 = .ok (.isub, 1) := by decide +kernel
theorem dX4_closeAccount_51 : decode cX4_closeAccount 51 = .ok (.putfield 61, 3) := by decide +kernel
theorem dX4_closeAccount_54 : decode cX4_closeAccount 54 = .ok (.aload_n 0, 1) := by decide +kernel
theorem dX4_closeAccount_55 : decode cX4_closeAccount 55 = .ok (.dup, 1) := by decide +kernel
theorem dX4_closeAccount_56 : decode cX4_closeAccount 56 = .ok (.getfield 64, 3) := by decide +kernel
theorem dX4_closeAccount_59 : decode cX4_closeAccount 59 = .ok (.iload_n 2, 1) := by decide +kernel
theorem dX4_closeAccount_60 : decode cX4_closeAccount 60 = .ok (.iload_n 3, 1) := by decide +kernel
theorem dX4_closeAccount_61 : decode cX4_closeAccount 61 = .ok (.isub, 1) := by decide +kernel
theorem dX4_closeAccount_62 : decode cX4_closeAccount 62 = .ok (.iadd, 1) := by decide +kernel
theorem dX4_closeAccount_63 : decode cX4_closeAccount 63 = .ok (.putfield 64, 3) := by decide +kernel
theorem dX4_closeAccount_66 : decode cX4_closeAccount 66 = .ok (.aload_n 0, 1) := by decide +kernel
theorem dX4_closeAccount_67 : decode cX4_closeAccount 67 = .ok (.getfield 21, 3) := by decide +kernel
theorem dX4_closeAccount_70 : decode cX4_closeAccount 70 = .ok (.iload_n 1, 1) := by decide +kernel
theorem dX4_closeAccount_71 : decode cX4_closeAccount 71 = .ok (.iconst 0, 1) := by decide +kernel
theorem dX4_closeAccount_72 : decode cX4_closeAccount 72 = .ok (.iastore, 1) := by decide +kernel
theorem dX4_closeAccount_73 : decode cX4_closeAccount 73 = .ok (.aload_n 0, 1) := by decide +kernel
theorem dX4_closeAccount_74 : decode cX4_closeAccount 74 = .ok (.getfield 24, 3) := by decide +kernel
theorem dX4_closeAccount_77 : decode cX4_closeAccount 77 = .ok (.iload_n 1, 1) := by decide +kernel
theorem dX4_closeAccount_78 : decode cX4_closeAccount 78 = .ok (.iconst 2, 1) := by decide +kernel
theorem dX4_closeAccount_79 : decode cX4_closeAccount 79 = .ok (.iastore, 1) := by decide +kernel
theorem dX4_closeAccount_80 : decode cX4_closeAccount 80 = .ok (.return_, 1) := by decide +kernel
theorem dX4_removeContract_0 : decode cX4_removeContract 0 = .ok (.iload_n 1, 1) := by decide +kernel
theorem dX4_removeContract_1 : decode cX4_removeContract 1 = .ok (.istore_n 2, 1) := by decide +kernel
theorem dX4_removeContract_2 : decode cX4_removeContract 2 = .ok (.iload_n 2, 1) := by decide +kernel
theorem dX4_removeContract_3 : decode cX4_removeContract 3 = .ok (.iconst 1, 1) := by decide +kernel
theorem dX4_removeContract_4 : decode cX4_removeContract 4 = .ok (.iadd, 1) := by decide +kernel
theorem dX4_removeContract_5 : decode cX4_removeContract 5 = .ok (.aload_n 0, 1) := by decide +kernel
theorem dX4_removeContract_6 : decode cX4_removeContract 6 = .ok (.getfield 55, 3) := by decide +kernel
theorem dX4_removeContract_9 : decode cX4_removeContract 9 = .ok (.if_icmp .ge 79, 3) := by decide +kernel
theorem dX4_removeContract_12 : decode cX4_removeContract 12 = .ok (.aload_n 0, 1) := by decide +kernel
theorem dX4_removeContract_13 : decode cX4_removeContract 13 = .ok (.getfield 27, 3) := by decide +kernel
theorem dX4_removeContract_16 : decode cX4_removeContract 16 = .ok (.iload_n 2, 1) := by decide +kernel
theorem dX4_removeContract_17 : decode cX4_removeContract 17 = .ok (.aload_n 0, 1) := by decide +kernel
theorem dX4_removeContract_18 : decode cX4_removeContract 18 = .ok (.getfield 27, 3) := by decide +kernel
theorem dX4_removeContract_21 : decode cX4_removeContract 21 = .ok (.iload_n 2, 1) := by decide +kernel
theorem dX4_removeContract_22 : decode cX4_removeContract 22 = .ok (.iconst 1, 1) := by decide +kernel
theorem dX4_removeContract_23 : decode cX4_removeContract 23 = .ok (.iadd, 1) := by decide +kernel
theorem dX4_removeContract_24 : decode cX4_removeContract 24 = .ok (.iaload, 1) := by decide +kernel
theorem dX4_removeContract_25 : decode cX4_removeContract 25 = .ok (.iastore, 1) := by decide +kernel
theorem dX4_removeContract_26 : decode cX4_removeContract 26 = .ok (.aload_n 0, 1) := by decide +kernel
theorem dX4_removeContract_27 : decode cX4_removeContract 27 = .ok (.getfield 30, 3) := by decide +kernel
theorem dX4_removeContract_30 : decode cX4_removeContract 30 = .ok (.iload_n 2, 1) := by decide +kernel
theorem dX4_removeContract_31 : decode cX4_removeContract 31 = .ok (.aload_n 0, 1) := by decide +kernel
theorem dX4_removeContract_32 : decode cX4_removeContract 32 = .ok (.getfield 30, 3) := by decide +kernel
theorem dX4_removeContract_35 : decode cX4_removeContract 35 = .ok (.iload_n 2, 1) := by decide +kernel
theorem dX4_removeContract_36 : decode cX4_removeContract 36 = .ok (.iconst 1, 1) := by decide +kernel
theorem dX4_removeContract_37 : decode cX4_removeContract 37 = .ok (.iadd, 1) := by decide +kernel
theorem dX4_removeContract_38 : decode cX4_removeContract 38 = .ok (.iaload, 1) := by decide +kernel
theorem dX4_removeContract_39 : decode cX4_removeContract 39 = .ok (.iastore, 1) := by decide +kernel
theorem dX4_removeContract_40 : decode cX4_removeContract 40 = .ok (.aload_n 0, 1) := by decide +kernel
theorem dX4_removeContract_41 : decode cX4_removeContract 41 = .ok (.getfield 33, 3) := by decide +kernel
theorem dX4_removeContract_44 : decode cX4_removeContract 44 = .ok (.iload_n 2, 1) := by decide +kernel
theorem dX4_removeContract_45 : decode cX4_removeContract 45 = .ok (.aload_n 0, 1) := by decide +kernel
theorem dX4_removeContract_46 : decode cX4_removeContract 46 = .ok (.getfield 33, 3) := by decide +kernel
theorem dX4_removeContract_49 : decode cX4_removeContract 49 = .ok (.iload_n 2, 1) := by decide +kernel
theorem dX4_removeContract_50 : decode cX4_removeContract 50 = .ok (.iconst 1, 1) := by decide +kernel
theorem dX4_removeContract_51 : decode cX4_removeContract 51 = .ok (.iadd, 1) := by decide +kernel
theorem dX4_removeContract_52 : decode cX4_removeContract 52 = .ok (.iaload, 1) := by decide +kernel
theorem dX4_removeContract_53 : decode cX4_removeContract 53 = .ok (.iastore, 1) := by decide +kernel
theorem dX4_removeContract_54 : decode cX4_removeContract 54 = .ok (.aload_n 0, 1) := by decide +kernel
theorem dX4_removeContract_55 : decode cX4_removeContract 55 = .ok (.getfield 36, 3) := by decide +kernel
theorem dX4_removeContract_58 : decode cX4_removeContract 58 = .ok (.iload_n 2, 1) := by decide +kernel
theorem dX4_removeContract_59 : decode cX4_removeContract 59 = .ok (.aload_n 0, 1) := by decide +kernel
theorem dX4_removeContract_60 : decode cX4_removeContract 60 = .ok (.getfield 36, 3) := by decide +kernel
theorem dX4_removeContract_63 : decode cX4_removeContract 63 = .ok (.iload_n 2, 1) := by decide +kernel
theorem dX4_removeContract_64 : decode cX4_removeContract 64 = .ok (.iconst 1, 1) := by decide +kernel
theorem dX4_removeContract_65 : decode cX4_removeContract 65 = .ok (.iadd, 1) := by decide +kernel
theorem dX4_removeContract_66 : decode cX4_removeContract 66 = .ok (.iaload, 1) := by decide +kernel
theorem dX4_removeContract_67 : decode cX4_removeContract 67 = .ok (.iastore, 1) := by decide +kernel
theorem dX4_removeContract_68 : decode cX4_removeContract 68 = .ok (.aload_n 0, 1) := by decide +kernel
theorem dX4_removeContract_69 : decode cX4_removeContract 69 = .ok (.getfield 39, 3) := by decide +kernel
theorem dX4_removeContract_72 : decode cX4_removeContract 72 = .ok (.iload_n 2, 1) := by decide +kernel
theorem dX4_removeContract_73 : decode cX4_removeContract 73 = .ok (.aload_n 0, 1) := by decide +kernel
theorem dX4_removeContract_74 : decode cX4_removeContract 74 = .ok (.getfield 39, 3) := by decide +kernel
theorem dX4_removeContract_77 : decode cX4_removeContract 77 = .ok (.iload_n 2, 1) := by decide +kernel
theorem dX4_removeContract_78 : decode cX4_removeContract 78 = .ok (.iconst 1, 1) := by decide +kernel
theorem dX4_removeContract_79 : decode cX4_removeContract 79 = .ok (.iadd, 1) := by decide +kernel
theorem dX4_removeContract_80 : decode cX4_removeContract 80 = .ok (.iaload, 1) := by decide +kernel
theorem dX4_removeContract_81 : decode cX4_removeContract 81 = .ok (.iastore, 1) := by decide +kernel
theorem dX4_removeContract_82 : decode cX4_removeContract 82 = .ok (.iinc 2 1, 3) := by decide +kernel
theorem dX4_removeContract_85 : decode cX4_removeContract 85 = .ok (.goto (-83), 3) := by decide +kernel
theorem dX4_removeContract_88 : decode cX4_removeContract 88 = .ok (.aload_n 0, 1) := by decide +kernel
theorem dX4_removeContract_89 : decode cX4_removeContract 89 = .ok (.dup, 1) := by decide +kernel
theorem dX4_removeContract_90 : decode cX4_removeContract 90 = .ok (.getfield 55, 3) := by decide +kernel
theorem dX4_removeContract_93 : decode cX4_removeContract 93 = .ok (.iconst 1, 1) := by decide +kernel
theorem dX4_removeContract_94 : decode cX4_removeContract 94 = .ok (.isub, 1) := by decide +kernel
theorem dX4_removeContract_95 : decode cX4_removeContract 95 = .ok (.putfield 55, 3) := by decide +kernel
theorem dX4_removeContract_98 : decode cX4_removeContract 98 = .ok (.return_, 1) := by decide +kernel
theorem dX4_concerns_0 : decode cX4_concerns 0 = .ok (.aload_n 0, 1) := by decide +kernel
theorem dX4_concerns_1 : decode cX4_concerns 1 = .ok (.getfield 27, 3) := by decide +kernel
theorem dX4_concerns_4 : decode cX4_concerns 4 = .ok (.iload_n 1, 1) := by decide +kernel
theorem dX4_concerns_5 : decode cX4_concerns 5 = .ok (.iaload, 1) := by decide +kernel
theorem dX4_concerns_6 : decode cX4_concerns 6 = .ok (.iload_n 2, 1) := by decide +kernel
theorem dX4_concerns_7 : decode cX4_concerns 7 = .ok (.if_icmp .eq 13, 3) := by decide +kernel
theorem dX4_concerns_10 : decode cX4_concerns 10 = .ok (.aload_n 0, 1) := by decide +kernel
theorem dX4_concerns_11 : decode cX4_concerns 11 = .ok (.getfield 30, 3) := by decide +kernel
theorem dX4_concerns_14 : decode cX4_concerns 14 = .ok (.iload_n 1, 1) := by decide +kernel
theorem dX4_concerns_15 : decode cX4_concerns 15 = .ok (.iaload, 1) := by decide +kernel
theorem dX4_concerns_16 : decode cX4_concerns 16 = .ok (.iload_n 2, 1) := by decide +kernel
theorem dX4_concerns_17 : decode cX4_concerns 17 = .ok (.if_icmp .ne 7, 3) := by decide +kernel
theorem dX4_concerns_20 : decode cX4_concerns 20 = .ok (.iconst 1, 1) := by decide +kernel
theorem dX4_concerns_21 : decode cX4_concerns 21 = .ok (.goto 4, 3) := by decide +kernel
theorem dX4_concerns_24 : decode cX4_concerns 24 = .ok (.iconst 0, 1) := by decide +kernel
theorem dX4_concerns_25 : decode cX4_concerns 25 = .ok (.ireturn, 1) := by decide +kernel
theorem dX4_position_0 : decode cX4_position 0 = .ok (.aload_n 0, 1) := by decide +kernel
theorem dX4_position_1 : decode cX4_position 1 = .ok (.iload_n 1, 1) := by decide +kernel
theorem dX4_position_2 : decode cX4_position 2 = .ok (.iload_n 2, 1) := by decide +kernel
theorem dX4_position_3 : decode cX4_position 3 = .ok (.iconst (-1), 1) := by decide +kernel
theorem dX4_position_4 : decode cX4_position 4 = .ok (.invokevirtual 111, 3) := by decide +kernel
theorem dX4_position_7 : decode cX4_position 7 = .ok (.ireturn, 1) := by decide +kernel
theorem dX4_positionWithout_0 : decode cX4_positionWithout 0 = .ok (.iconst 0, 1) := by decide +kernel
theorem dX4_positionWithout_1 : decode cX4_positionWithout 1 = .ok (.istore 4, 2) := by decide +kernel
theorem dX4_positionWithout_3 : decode cX4_positionWithout 3 = .ok (.iconst 0, 1) := by decide +kernel
theorem dX4_positionWithout_4 : decode cX4_positionWithout 4 = .ok (.istore 5, 2) := by decide +kernel
theorem dX4_positionWithout_6 : decode cX4_positionWithout 6 = .ok (.iload 5, 2) := by decide +kernel
theorem dX4_positionWithout_8 : decode cX4_positionWithout 8 = .ok (.aload_n 0, 1) := by decide +kernel
theorem dX4_positionWithout_9 : decode cX4_positionWithout 9 = .ok (.getfield 55, 3) := by decide +kernel
theorem dX4_positionWithout_12 : decode cX4_positionWithout 12 = .ok (.if_icmp .ge 82, 3) := by decide +kernel
theorem dX4_positionWithout_15 : decode cX4_positionWithout 15 = .ok (.aload_n 0, 1) := by decide +kernel
theorem dX4_positionWithout_16 : decode cX4_positionWithout 16 = .ok (.getfield 33, 3) := by decide +kernel
theorem dX4_positionWithout_19 : decode cX4_positionWithout 19 = .ok (.iload 5, 2) := by decide +kernel
theorem dX4_positionWithout_21 : decode cX4_positionWithout 21 = .ok (.iaload, 1) := by decide +kernel
theorem dX4_positionWithout_22 : decode cX4_positionWithout 22 = .ok (.iload_n 2, 1) := by decide +kernel
theorem dX4_positionWithout_23 : decode cX4_positionWithout 23 = .ok (.if_icmp .ne 65, 3) := by decide +kernel
theorem dX4_positionWithout_26 : decode cX4_positionWithout 26 = .ok (.aload_n 0, 1) := by decide +kernel
theorem dX4_positionWithout_27 : decode cX4_positionWithout 27 = .ok (.iload 5, 2) := by decide +kernel
theorem dX4_positionWithout_29 : decode cX4_positionWithout 29 = .ok (.iload_n 3, 1) := by decide +kernel
theorem dX4_positionWithout_30 : decode cX4_positionWithout 30 = .ok (.invokevirtual 103, 3) := by decide +kernel
theorem dX4_positionWithout_33 : decode cX4_positionWithout 33 = .ok (.ifCond .eq 6, 3) := by decide +kernel
theorem dX4_positionWithout_36 : decode cX4_positionWithout 36 = .ok (.goto 52, 3) := by decide +kernel
theorem dX4_positionWithout_39 : decode cX4_positionWithout 39 = .ok (.aload_n 0, 1) := by decide +kernel
theorem dX4_positionWithout_40 : decode cX4_positionWithout 40 = .ok (.getfield 27, 3) := by decide +kernel
theorem dX4_positionWithout_43 : decode cX4_positionWithout 43 = .ok (.iload 5, 2) := by decide +kernel
theorem dX4_positionWithout_45 : decode cX4_positionWithout 45 = .ok (.iaload, 1) := by decide +kernel
theorem dX4_positionWithout_46 : decode cX4_positionWithout 46 = .ok (.iload_n 1, 1) := by decide +kernel
theorem dX4_positionWithout_47 : decode cX4_positionWithout 47 = .ok (.if_icmp .ne 18, 3) := by decide +kernel
theorem dX4_positionWithout_50 : decode cX4_positionWithout 50 = .ok (.iload 4, 2) := by decide +kernel
theorem dX4_positionWithout_52 : decode cX4_positionWithout 52 = .ok (.aload_n 0, 1) := by decide +kernel
theorem dX4_positionWithout_53 : decode cX4_positionWithout 53 = .ok (.getfield 36, 3) := by decide +kernel
theorem dX4_positionWithout_56 : decode cX4_positionWithout 56 = .ok (.iload 5, 2) := by decide +kernel
theorem dX4_positionWithout_58 : decode cX4_positionWithout 58 = .ok (.iaload, 1) := by decide +kernel
theorem dX4_positionWithout_59 : decode cX4_positionWithout 59 = .ok (.iadd, 1) := by decide +kernel
theorem dX4_positionWithout_60 : decode cX4_positionWithout 60 = .ok (.istore 4, 2) := by decide +kernel
theorem dX4_positionWithout_62 : decode cX4_positionWithout 62 = .ok (.goto 26, 3) := by decide +kernel
theorem dX4_positionWithout_65 : decode cX4_positionWithout 65 = .ok (.aload_n 0, 1) := by decide +kernel
theorem dX4_positionWithout_66 : decode cX4_positionWithout 66 = .ok (.getfield 30, 3) := by decide +kernel
theorem dX4_positionWithout_69 : decode cX4_positionWithout 69 = .ok (.iload 5, 2) := by decide +kernel
theorem dX4_positionWithout_71 : decode cX4_positionWithout 71 = .ok (.iaload, 1) := by decide +kernel
theorem dX4_positionWithout_72 : decode cX4_positionWithout 72 = .ok (.iload_n 1, 1) := by decide +kernel
theorem dX4_positionWithout_73 : decode cX4_positionWithout 73 = .ok (.if_icmp .ne 15, 3) := by decide +kernel
theorem dX4_positionWithout_76 : decode cX4_positionWithout 76 = .ok (.iload 4, 2) := by decide +kernel
theorem dX4_positionWithout_78 : decode cX4_positionWithout 78 = .ok (.aload_n 0, 1) := by decide +kernel
theorem dX4_positionWithout_79 : decode cX4_positionWithout 79 = .ok (.getfield 36, 3) := by decide +kernel
theorem dX4_positionWithout_82 : decode cX4_positionWithout 82 = .ok (.iload 5, 2) := by decide +kernel
theorem dX4_positionWithout_84 : decode cX4_positionWithout 84 = .ok (.iaload, 1) := by decide +kernel
theorem dX4_positionWithout_85 : decode cX4_positionWithout 85 = .ok (.isub, 1) := by decide +kernel
theorem dX4_positionWithout_86 : decode cX4_positionWithout 86 = .ok (.istore 4, 2) := by decide +kernel
theorem dX4_positionWithout_88 : decode cX4_positionWithout 88 = .ok (.iinc 5 1, 3) := by decide +kernel
theorem dX4_positionWithout_91 : decode cX4_positionWithout 91 = .ok (.goto (-85), 3) := by decide +kernel
theorem dX4_positionWithout_94 : decode cX4_positionWithout 94 = .ok (.iload 4, 2) := by decide +kernel
theorem dX4_positionWithout_96 : decode cX4_positionWithout 96 = .ok (.ireturn, 1) := by decide +kernel
theorem dX4_quantityOpenOn_0 : decode cX4_quantityOpenOn 0 = .ok (.iconst 0, 1) := by decide +kernel
theorem dX4_quantityOpenOn_1 : decode cX4_quantityOpenOn 1 = .ok (.istore_n 2, 1) := by decide +kernel
theorem dX4_quantityOpenOn_2 : decode cX4_quantityOpenOn 2 = .ok (.iconst 0, 1) := by decide +kernel
theorem dX4_quantityOpenOn_3 : decode cX4_quantityOpenOn 3 = .ok (.istore_n 3, 1) := by decide +kernel
theorem dX4_quantityOpenOn_4 : decode cX4_quantityOpenOn 4 = .ok (.iload_n 3, 1) := by decide +kernel
theorem dX4_quantityOpenOn_5 : decode cX4_quantityOpenOn 5 = .ok (.aload_n 0, 1) := by decide +kernel
theorem dX4_quantityOpenOn_6 : decode cX4_quantityOpenOn 6 = .ok (.getfield 55, 3) := by decide +kernel
theorem dX4_quantityOpenOn_9 : decode cX4_quantityOpenOn 9 = .ok (.if_icmp .ge 28, 3) := by decide +kernel
theorem dX4_quantityOpenOn_12 : decode cX4_quantityOpenOn 12 = .ok (.aload_n 0, 1) := by decide +kernel
theorem dX4_quantityOpenOn_13 : decode cX4_quantityOpenOn 13 = .ok (.getfield 33, 3) := by decide +kernel
theorem dX4_quantityOpenOn_16 : decode cX4_quantityOpenOn 16 = .ok (.iload_n 3, 1) := by decide +kernel
theorem dX4_quantityOpenOn_17 : decode cX4_quantityOpenOn 17 = .ok (.iaload, 1) := by decide +kernel
theorem dX4_quantityOpenOn_18 : decode cX4_quantityOpenOn 18 = .ok (.iload_n 1, 1) := by decide +kernel
theorem dX4_quantityOpenOn_19 : decode cX4_quantityOpenOn 19 = .ok (.if_icmp .ne 12, 3) := by decide +kernel
theorem dX4_quantityOpenOn_22 : decode cX4_quantityOpenOn 22 = .ok (.iload_n 2, 1) := by decide +kernel
theorem dX4_quantityOpenOn_23 : decode cX4_quantityOpenOn 23 = .ok (.aload_n 0, 1) := by decide +kernel
theorem dX4_quantityOpenOn_24 : decode cX4_quantityOpenOn 24 = .ok (.getfield 36, 3) := by decide +kernel
theorem dX4_quantityOpenOn_27 : decode cX4_quantityOpenOn 27 = .ok (.iload_n 3, 1) := by decide +kernel
theorem dX4_quantityOpenOn_28 : decode cX4_quantityOpenOn 28 = .ok (.iaload, 1) := by decide +kernel
theorem dX4_quantityOpenOn_29 : decode cX4_quantityOpenOn 29 = .ok (.iadd, 1) := by decide +kernel
theorem dX4_quantityOpenOn_30 : decode cX4_quantityOpenOn 30 = .ok (.istore_n 2, 1) := by decide +kernel
theorem dX4_quantityOpenOn_31 : decode cX4_quantityOpenOn 31 = .ok (.iinc 3 1, 3) := by decide +kernel
theorem dX4_quantityOpenOn_34 : decode cX4_quantityOpenOn 34 = .ok (.goto (-30), 3) := by decide +kernel
theorem dX4_quantityOpenOn_37 : decode cX4_quantityOpenOn 37 = .ok (.iload_n 2, 1) := by decide +kernel
theorem dX4_quantityOpenOn_38 : decode cX4_quantityOpenOn 38 = .ok (.ireturn, 1) := by decide +kernel
theorem dX4_margin_0 : decode cX4_margin 0 = .ok (.iconst 0, 1) := by decide +kernel
theorem dX4_margin_1 : decode cX4_margin 1 = .ok (.istore_n 2, 1) := by decide +kernel
theorem dX4_margin_2 : decode cX4_margin 2 = .ok (.iconst 0, 1) := by decide +kernel
theorem dX4_margin_3 : decode cX4_margin 3 = .ok (.istore_n 3, 1) := by decide +kernel
theorem dX4_margin_4 : decode cX4_margin 4 = .ok (.iload_n 3, 1) := by decide +kernel
theorem dX4_margin_5 : decode cX4_margin 5 = .ok (.aload_n 0, 1) := by decide +kernel
theorem dX4_margin_6 : decode cX4_margin 6 = .ok (.getfield 42, 3) := by decide +kernel
theorem dX4_margin_9 : decode cX4_margin 9 = .ok (.if_icmp .ge 28, 3) := by decide +kernel
theorem dX4_margin_12 : decode cX4_margin 12 = .ok (.iload_n 2, 1) := by decide +kernel
theorem dX4_margin_13 : decode cX4_margin 13 = .ok (.aload_n 0, 1) := by decide +kernel
theorem dX4_margin_14 : decode cX4_margin 14 = .ok (.iload_n 1, 1) := by decide +kernel
theorem dX4_margin_15 : decode cX4_margin 15 = .ok (.iload_n 3, 1) := by decide +kernel
theorem dX4_margin_16 : decode cX4_margin 16 = .ok (.invokevirtual 114, 3) := by decide +kernel
theorem dX4_margin_19 : decode cX4_margin 19 = .ok (.invokestatic 117, 3) := by decide +kernel
theorem dX4_margin_22 : decode cX4_margin 22 = .ok (.aload_n 0, 1) := by decide +kernel
theorem dX4_margin_23 : decode cX4_margin 23 = .ok (.getfield 18, 3) := by decide +kernel
theorem dX4_margin_26 : decode cX4_margin 26 = .ok (.iload_n 3, 1) := by decide +kernel
theorem dX4_margin_27 : decode cX4_margin 27 = .ok (.iaload, 1) := by decide +kernel
theorem dX4_margin_28 : decode cX4_margin 28 = .ok (.imul, 1) := by decide +kernel
theorem dX4_margin_29 : decode cX4_margin 29 = .ok (.iadd, 1) := by decide +kernel
theorem dX4_margin_30 : decode cX4_margin 30 = .ok (.istore_n 2, 1) := by decide +kernel
theorem dX4_margin_31 : decode cX4_margin 31 = .ok (.iinc 3 1, 3) := by decide +kernel
theorem dX4_margin_34 : decode cX4_margin 34 = .ok (.goto (-30), 3) := by decide +kernel
theorem dX4_margin_37 : decode cX4_margin 37 = .ok (.iload_n 2, 1) := by decide +kernel
theorem dX4_margin_38 : decode cX4_margin 38 = .ok (.ireturn, 1) := by decide +kernel
theorem dX4_marginWith_0 : decode cX4_marginWith 0 = .ok (.aload_n 0, 1) := by decide +kernel
theorem dX4_marginWith_1 : decode cX4_marginWith 1 = .ok (.iload_n 1, 1) := by decide +kernel
theorem dX4_marginWith_2 : decode cX4_marginWith 2 = .ok (.iload_n 2, 1) := by decide +kernel
theorem dX4_marginWith_3 : decode cX4_marginWith 3 = .ok (.invokevirtual 114, 3) := by decide +kernel
theorem dX4_marginWith_6 : decode cX4_marginWith 6 = .ok (.istore 4, 2) := by decide +kernel
theorem dX4_marginWith_8 : decode cX4_marginWith 8 = .ok (.aload_n 0, 1) := by decide +kernel
theorem dX4_marginWith_9 : decode cX4_marginWith 9 = .ok (.iload_n 1, 1) := by decide +kernel
theorem dX4_marginWith_10 : decode cX4_marginWith 10 = .ok (.invokevirtual 92, 3) := by decide +kernel
theorem dX4_marginWith_13 : decode cX4_marginWith 13 = .ok (.iload 4, 2) := by decide +kernel
theorem dX4_marginWith_15 : decode cX4_marginWith 15 = .ok (.iload_n 3, 1) := by decide +kernel
theorem dX4_marginWith_16 : decode cX4_marginWith 16 = .ok (.iadd, 1) := by decide +kernel
theorem dX4_marginWith_17 : decode cX4_marginWith 17 = .ok (.invokestatic 117, 3) := by decide +kernel
theorem dX4_marginWith_20 : decode cX4_marginWith 20 = .ok (.iload 4, 2) := by decide +kernel
theorem dX4_marginWith_22 : decode cX4_marginWith 22 = .ok (.invokestatic 117, 3) := by decide +kernel
theorem dX4_marginWith_25 : decode cX4_marginWith 25 = .ok (.isub, 1) := by decide +kernel
theorem dX4_marginWith_26 : decode cX4_marginWith 26 = .ok (.aload_n 0, 1) := by decide +kernel
theorem dX4_marginWith_27 : decode cX4_marginWith 27 = .ok (.getfield 18, 3) := by decide +kernel
theorem dX4_marginWith_30 : decode cX4_marginWith 30 = .ok (.iload_n 2, 1) := by decide +kernel
theorem dX4_marginWith_31 : decode cX4_marginWith 31 = .ok (.iaload, 1) := by decide +kernel
theorem dX4_marginWith_32 : decode cX4_marginWith 32 = .ok (.imul, 1) := by decide +kernel
theorem dX4_marginWith_33 : decode cX4_marginWith 33 = .ok (.iadd, 1) := by decide +kernel
theorem dX4_marginWith_34 : decode cX4_marginWith 34 = .ok (.ireturn, 1) := by decide +kernel
theorem dX4_marginOverScenarios_0 : decode cX4_marginOverScenarios 0 = .ok (.iconst 0, 1) := by decide +kernel
theorem dX4_marginOverScenarios_1 : decode cX4_marginOverScenarios 1 = .ok (.istore_n 2, 1) := by decide +kernel
theorem dX4_marginOverScenarios_2 : decode cX4_marginOverScenarios 2 = .ok (.iconst 0, 1) := by decide +kernel
theorem dX4_marginOverScenarios_3 : decode cX4_marginOverScenarios 3 = .ok (.istore_n 3, 1) := by decide +kernel
theorem dX4_marginOverScenarios_4 : decode cX4_marginOverScenarios 4 = .ok (.iload_n 3, 1) := by decide +kernel
theorem dX4_marginOverScenarios_5 : decode cX4_marginOverScenarios 5 = .ok (.iconst 1, 1) := by decide +kernel
theorem dX4_marginOverScenarios_6 : decode cX4_marginOverScenarios 6 = .ok (.aload_n 0, 1) := by decide +kernel
theorem dX4_marginOverScenarios_7 : decode cX4_marginOverScenarios 7 = .ok (.getfield 42, 3) := by decide +kernel
theorem dX4_marginOverScenarios_10 : decode cX4_marginOverScenarios 10 = .ok (.ishl, 1) := by decide +kernel
theorem dX4_marginOverScenarios_11 : decode cX4_marginOverScenarios 11 = .ok (.if_icmp .ge 76, 3) := by decide +kernel
theorem dX4_marginOverScenarios_14 : decode cX4_marginOverScenarios 14 = .ok (.iconst 0, 1) := by decide +kernel
theorem dX4_marginOverScenarios_15 : decode cX4_marginOverScenarios 15 = .ok (.istore 4, 2) := by decide +kernel
theorem dX4_marginOverScenarios_17 : decode cX4_marginOverScenarios 17 = .ok (.iconst 0, 1) := by decide +kernel
theorem dX4_marginOverScenarios_18 : decode cX4_marginOverScenarios 18 = .ok (.istore 5, 2) := by decide +kernel
theorem dX4_marginOverScenarios_20 : decode cX4_marginOverScenarios 20 = .ok (.iload 5, 2) := by decide +kernel
theorem dX4_marginOverScenarios_22 : decode cX4_marginOverScenarios 22 = .ok (.aload_n 0, 1) := by decide +kernel
theorem dX4_marginOverScenarios_23 : decode cX4_marginOverScenarios 23 = .ok (.getfield 42, 3) := by decide +kernel
theorem dX4_marginOverScenarios_26 : decode cX4_marginOverScenarios 26 = .ok (.if_icmp .ge 48, 3) := by decide +kernel
theorem dX4_marginOverScenarios_29 : decode cX4_marginOverScenarios 29 = .ok (.aload_n 0, 1) := by decide +kernel
theorem dX4_marginOverScenarios_30 : decode cX4_marginOverScenarios 30 = .ok (.iload_n 1, 1) := by decide +kernel
theorem dX4_marginOverScenarios_31 : decode cX4_marginOverScenarios 31 = .ok (.iload 5, 2) := by decide +kernel
theorem dX4_marginOverScenarios_33 : decode cX4_marginOverScenarios 33 = .ok (.invokevirtual 114, 3) := by decide +kernel
theorem dX4_marginOverScenarios_36 : decode cX4_marginOverScenarios 36 = .ok (.aload_n 0, 1) := by decide +kernel
theorem dX4_marginOverScenarios_37 : decode cX4_marginOverScenarios 37 = .ok (.getfield 18, 3) := by decide +kernel
theorem dX4_marginOverScenarios_40 : decode cX4_marginOverScenarios 40 = .ok (.iload 5, 2) := by decide +kernel
theorem dX4_marginOverScenarios_42 : decode cX4_marginOverScenarios 42 = .ok (.iaload, 1) := by decide +kernel
theorem dX4_marginOverScenarios_43 : decode cX4_marginOverScenarios 43 = .ok (.imul, 1) := by decide +kernel
theorem dX4_marginOverScenarios_44 : decode cX4_marginOverScenarios 44 = .ok (.istore 6, 2) := by decide +kernel
theorem dX4_marginOverScenarios_46 : decode cX4_marginOverScenarios 46 = .ok (.iload 4, 2) := by decide +kernel
theorem dX4_marginOverScenarios_48 : decode cX4_marginOverScenarios 48 = .ok (.iload_n 3, 1) := by decide +kernel
theorem dX4_marginOverScenarios_49 : decode cX4_marginOverScenarios 49 = .ok (.iload 5, 2) := by decide +kernel
theorem dX4_marginOverScenarios_51 : decode cX4_marginOverScenarios 51 = .ok (.ishr, 1) := by decide +kernel
theorem dX4_marginOverScenarios_52 : decode cX4_marginOverScenarios 52 = .ok (.iconst 1, 1) := by decide +kernel
theorem dX4_marginOverScenarios_53 : decode cX4_marginOverScenarios 53 = .ok (.iand, 1) := by decide +kernel
theorem dX4_marginOverScenarios_54 : decode cX4_marginOverScenarios 54 = .ok (.ifCond .eq 9, 3) := by decide +kernel
theorem dX4_marginOverScenarios_57 : decode cX4_marginOverScenarios 57 = .ok (.iload 6, 2) := by decide +kernel
theorem dX4_marginOverScenarios_59 : decode cX4_marginOverScenarios 59 = .ok (.ineg, 1) := by decide +kernel
theorem dX4_marginOverScenarios_60 : decode cX4_marginOverScenarios 60 = .ok (.goto 5, 3) := by decide +kernel
theorem dX4_marginOverScenarios_63 : decode cX4_marginOverScenarios 63 = .ok (.iload 6, 2) := by decide +kernel
theorem dX4_marginOverScenarios_65 : decode cX4_marginOverScenarios 65 = .ok (.iadd, 1) := by decide +kernel
theorem dX4_marginOverScenarios_66 : decode cX4_marginOverScenarios 66 = .ok (.istore 4, 2) := by decide +kernel
theorem dX4_marginOverScenarios_68 : decode cX4_marginOverScenarios 68 = .ok (.iinc 5 1, 3) := by decide +kernel
theorem dX4_marginOverScenarios_71 : decode cX4_marginOverScenarios 71 = .ok (.goto (-51), 3) := by decide +kernel
theorem dX4_marginOverScenarios_74 : decode cX4_marginOverScenarios 74 = .ok (.iload_n 2, 1) := by decide +kernel
theorem dX4_marginOverScenarios_75 : decode cX4_marginOverScenarios 75 = .ok (.iload 4, 2) := by decide +kernel
theorem dX4_marginOverScenarios_77 : decode cX4_marginOverScenarios 77 = .ok (.invokestatic 120, 3) := by decide +kernel
theorem dX4_marginOverScenarios_80 : decode cX4_marginOverScenarios 80 = .ok (.istore_n 2, 1) := by decide +kernel
theorem dX4_marginOverScenarios_81 : decode cX4_marginOverScenarios 81 = .ok (.iinc 3 1, 3) := by decide +kernel
theorem dX4_marginOverScenarios_84 : decode cX4_marginOverScenarios 84 = .ok (.goto (-80), 3) := by decide +kernel
theorem dX4_marginOverScenarios_87 : decode cX4_marginOverScenarios 87 = .ok (.iload_n 2, 1) := by decide +kernel
theorem dX4_marginOverScenarios_88 : decode cX4_marginOverScenarios 88 = .ok (.ireturn, 1) := by decide +kernel
theorem dX4_variation_0 : decode cX4_variation 0 = .ok (.iconst 0, 1) := by decide +kernel
theorem dX4_variation_1 : decode cX4_variation 1 = .ok (.istore_n 2, 1) := by decide +kernel
theorem dX4_variation_2 : decode cX4_variation 2 = .ok (.iconst 0, 1) := by decide +kernel
theorem dX4_variation_3 : decode cX4_variation 3 = .ok (.istore_n 3, 1) := by decide +kernel
theorem dX4_variation_4 : decode cX4_variation 4 = .ok (.iload_n 3, 1) := by decide +kernel
theorem dX4_variation_5 : decode cX4_variation 5 = .ok (.aload_n 0, 1) := by decide +kernel
theorem dX4_variation_6 : decode cX4_variation 6 = .ok (.getfield 42, 3) := by decide +kernel
theorem dX4_variation_9 : decode cX4_variation 9 = .ok (.if_icmp .ge 32, 3) := by decide +kernel
theorem dX4_variation_12 : decode cX4_variation 12 = .ok (.iload_n 2, 1) := by decide +kernel
theorem dX4_variation_13 : decode cX4_variation 13 = .ok (.aload_n 0, 1) := by decide +kernel
theorem dX4_variation_14 : decode cX4_variation 14 = .ok (.iload_n 1, 1) := by decide +kernel
theorem dX4_variation_15 : decode cX4_variation 15 = .ok (.iload_n 3, 1) := by decide +kernel
theorem dX4_variation_16 : decode cX4_variation 16 = .ok (.invokevirtual 114, 3) := by decide +kernel
theorem dX4_variation_19 : decode cX4_variation 19 = .ok (.aload_n 0, 1) := by decide +kernel
theorem dX4_variation_20 : decode cX4_variation 20 = .ok (.getfield 15, 3) := by decide +kernel
theorem dX4_variation_23 : decode cX4_variation 23 = .ok (.iload_n 3, 1) := by decide +kernel
theorem dX4_variation_24 : decode cX4_variation 24 = .ok (.iaload, 1) := by decide +kernel
theorem dX4_variation_25 : decode cX4_variation 25 = .ok (.aload_n 0, 1) := by decide +kernel
theorem dX4_variation_26 : decode cX4_variation 26 = .ok (.getfield 9, 3) := by decide +kernel
theorem dX4_variation_29 : decode cX4_variation 29 = .ok (.iload_n 3, 1) := by decide +kernel
theorem dX4_variation_30 : decode cX4_variation 30 = .ok (.iaload, 1) := by decide +kernel
theorem dX4_variation_31 : decode cX4_variation 31 = .ok (.isub, 1) := by decide +kernel
theorem dX4_variation_32 : decode cX4_variation 32 = .ok (.imul, 1) := by decide +kernel
theorem dX4_variation_33 : decode cX4_variation 33 = .ok (.iadd, 1) := by decide +kernel
theorem dX4_variation_34 : decode cX4_variation 34 = .ok (.istore_n 2, 1) := by decide +kernel
theorem dX4_variation_35 : decode cX4_variation 35 = .ok (.iinc 3 1, 3) := by decide +kernel
theorem dX4_variation_38 : decode cX4_variation 38 = .ok (.goto (-34), 3) := by decide +kernel
theorem dX4_variation_41 : decode cX4_variation 41 = .ok (.iload_n 2, 1) := by decide +kernel
theorem dX4_variation_42 : decode cX4_variation 42 = .ok (.ireturn, 1) := by decide +kernel
theorem dX4_traderAtRank_0 : decode cX4_traderAtRank 0 = .ok (.iconst 0, 1) := by decide +kernel
theorem dX4_traderAtRank_1 : decode cX4_traderAtRank 1 = .ok (.istore_n 2, 1) := by decide +kernel
theorem dX4_traderAtRank_2 : decode cX4_traderAtRank 2 = .ok (.iload_n 2, 1) := by decide +kernel
theorem dX4_traderAtRank_3 : decode cX4_traderAtRank 3 = .ok (.aload_n 0, 1) := by decide +kernel
theorem dX4_traderAtRank_4 : decode cX4_traderAtRank 4 = .ok (.getfield 52, 3) := by decide +kernel
theorem dX4_traderAtRank_7 : decode cX4_traderAtRank 7 = .ok (.if_icmp .ge 77, 3) := by decide +kernel
theorem dX4_traderAtRank_10 : decode cX4_traderAtRank 10 = .ok (.iconst 0, 1) := by decide +kernel
theorem dX4_traderAtRank_11 : decode cX4_traderAtRank 11 = .ok (.istore_n 3, 1) := by decide +kernel
theorem dX4_traderAtRank_12 : decode cX4_traderAtRank 12 = .ok (.iconst 0, 1) := by decide +kernel
theorem dX4_traderAtRank_13 : decode cX4_traderAtRank 13 = .ok (.istore 4, 2) := by decide +kernel
theorem dX4_traderAtRank_15 : decode cX4_traderAtRank 15 = .ok (.iload 4, 2) := by decide +kernel
theorem dX4_traderAtRank_17 : decode cX4_traderAtRank 17 = .ok (.aload_n 0, 1) := by decide +kernel
theorem dX4_traderAtRank_18 : decode cX4_traderAtRank 18 = .ok (.getfield 52, 3) := by decide +kernel
theorem dX4_traderAtRank_21 : decode cX4_traderAtRank 21 = .ok (.if_icmp .ge 50, 3) := by decide +kernel
theorem dX4_traderAtRank_24 : decode cX4_traderAtRank 24 = .ok (.aload_n 0, 1) := by decide +kernel
theorem dX4_traderAtRank_25 : decode cX4_traderAtRank 25 = .ok (.getfield 21, 3) := by decide +kernel
theorem dX4_traderAtRank_28 : decode cX4_traderAtRank 28 = .ok (.iload 4, 2) := by decide +kernel
theorem dX4_traderAtRank_30 : decode cX4_traderAtRank 30 = .ok (.iaload, 1) := by decide +kernel
theorem dX4_traderAtRank_31 : decode cX4_traderAtRank 31 = .ok (.aload_n 0, 1) := by decide +kernel
theorem dX4_traderAtRank_32 : decode cX4_traderAtRank 32 = .ok (.getfield 21, 3) := by decide +kernel
theorem dX4_traderAtRank_35 : decode cX4_traderAtRank 35 = .ok (.iload_n 2, 1) := by decide +kernel
theorem dX4_traderAtRank_36 : decode cX4_traderAtRank 36 = .ok (.iaload, 1) := by decide +kernel
theorem dX4_traderAtRank_37 : decode cX4_traderAtRank 37 = .ok (.if_icmp .gt 25, 3) := by decide +kernel
theorem dX4_traderAtRank_40 : decode cX4_traderAtRank 40 = .ok (.aload_n 0, 1) := by decide +kernel
theorem dX4_traderAtRank_41 : decode cX4_traderAtRank 41 = .ok (.getfield 21, 3) := by decide +kernel
theorem dX4_traderAtRank_44 : decode cX4_traderAtRank 44 = .ok (.iload 4, 2) := by decide +kernel
theorem dX4_traderAtRank_46 : decode cX4_traderAtRank 46 = .ok (.iaload, 1) := by decide +kernel
theorem dX4_traderAtRank_47 : decode cX4_traderAtRank 47 = .ok (.aload_n 0, 1) := by decide +kernel
theorem dX4_traderAtRank_48 : decode cX4_traderAtRank 48 = .ok (.getfield 21, 3) := by decide +kernel
theorem dX4_traderAtRank_51 : decode cX4_traderAtRank 51 = .ok (.iload_n 2, 1) := by decide +kernel
theorem dX4_traderAtRank_52 : decode cX4_traderAtRank 52 = .ok (.iaload, 1) := by decide +kernel
theorem dX4_traderAtRank_53 : decode cX4_traderAtRank 53 = .ok (.if_icmp .ne 12, 3) := by decide +kernel
theorem dX4_traderAtRank_56 : decode cX4_traderAtRank 56 = .ok (.iload 4, 2) := by decide +kernel
theorem dX4_traderAtRank_58 : decode cX4_traderAtRank 58 = .ok (.iload_n 2, 1) := by decide +kernel
theorem dX4_traderAtRank_59 : decode cX4_traderAtRank 59 = .ok (.if_icmp .ge 6, 3) := by decide +kernel
theorem dX4_traderAtRank_62 : decode cX4_traderAtRank 62 = .ok (.iinc 3 1, 3) := by decide +kernel
theorem dX4_traderAtRank_65 : decode cX4_traderAtRank 65 = .ok (.iinc 4 1, 3) := by decide +kernel
theorem dX4_traderAtRank_68 : decode cX4_traderAtRank 68 = .ok (.goto (-53), 3) := by decide +kernel
theorem dX4_traderAtRank_71 : decode cX4_traderAtRank 71 = .ok (.iload_n 3, 1) := by decide +kernel
theorem dX4_traderAtRank_72 : decode cX4_traderAtRank 72 = .ok (.iload_n 1, 1) := by decide +kernel
theorem dX4_traderAtRank_73 : decode cX4_traderAtRank 73 = .ok (.if_icmp .ne 5, 3) := by decide +kernel
theorem dX4_traderAtRank_76 : decode cX4_traderAtRank 76 = .ok (.iload_n 2, 1) := by decide +kernel
theorem dX4_traderAtRank_77 : decode cX4_traderAtRank 77 = .ok (.ireturn, 1) := by decide +kernel
theorem dX4_traderAtRank_78 : decode cX4_traderAtRank 78 = .ok (.iinc 2 1, 3) := by decide +kernel
theorem dX4_traderAtRank_81 : decode cX4_traderAtRank 81 = .ok (.goto (-79), 3) := by decide +kernel
theorem dX4_traderAtRank_84 : decode cX4_traderAtRank 84 = .ok (.iconst (-1), 1) := by decide +kernel
theorem dX4_traderAtRank_85 : decode cX4_traderAtRank 85 = .ok (.ireturn, 1) := by decide +kernel
theorem dX4_variationsAddUp_0 : decode cX4_variationsAddUp 0 = .ok (.iconst 0, 1) := by decide +kernel
theorem dX4_variationsAddUp_1 : decode cX4_variationsAddUp 1 = .ok (.istore_n 1, 1) := by decide +kernel
theorem dX4_variationsAddUp_2 : decode cX4_variationsAddUp 2 = .ok (.iconst 0, 1) := by decide +kernel
theorem dX4_variationsAddUp_3 : decode cX4_variationsAddUp 3 = .ok (.istore_n 2, 1) := by decide +kernel
theorem dX4_variationsAddUp_4 : decode cX4_variationsAddUp 4 = .ok (.iload_n 2, 1) := by decide +kernel
theorem dX4_variationsAddUp_5 : decode cX4_variationsAddUp 5 = .ok (.aload_n 0, 1) := by decide +kernel
theorem dX4_variationsAddUp_6 : decode cX4_variationsAddUp 6 = .ok (.getfield 52, 3) := by decide +kernel
theorem dX4_variationsAddUp_9 : decode cX4_variationsAddUp 9 = .ok (.if_icmp .ge 17, 3) := by decide +kernel
theorem dX4_variationsAddUp_12 : decode cX4_variationsAddUp 12 = .ok (.iload_n 1, 1) := by decide +kernel
theorem dX4_variationsAddUp_13 : decode cX4_variationsAddUp 13 = .ok (.aload_n 0, 1) := by decide +kernel
theorem dX4_variationsAddUp_14 : decode cX4_variationsAddUp 14 = .ok (.iload_n 2, 1) := by decide +kernel
theorem dX4_variationsAddUp_15 : decode cX4_variationsAddUp 15 = .ok (.invokevirtual 96, 3) := by decide +kernel
theorem dX4_variationsAddUp_18 : decode cX4_variationsAddUp 18 = .ok (.iadd, 1) := by decide +kernel
theorem dX4_variationsAddUp_19 : decode cX4_variationsAddUp 19 = .ok (.istore_n 1, 1) := by decide +kernel
theorem dX4_variationsAddUp_20 : decode cX4_variationsAddUp 20 = .ok (.iinc 2 1, 3) := by decide +kernel
theorem dX4_variationsAddUp_23 : decode cX4_variationsAddUp 23 = .ok (.goto (-19), 3) := by decide +kernel
theorem dX4_variationsAddUp_26 : decode cX4_variationsAddUp 26 = .ok (.iload_n 1, 1) := by decide +kernel
theorem dX4_variationsAddUp_27 : decode cX4_variationsAddUp 27 = .ok (.ifCond .ne 7, 3) := by decide +kernel
theorem dX4_variationsAddUp_30 : decode cX4_variationsAddUp 30 = .ok (.iconst 1, 1) := by decide +kernel
theorem dX4_variationsAddUp_31 : decode cX4_variationsAddUp 31 = .ok (.goto 4, 3) := by decide +kernel
theorem dX4_variationsAddUp_34 : decode cX4_variationsAddUp 34 = .ok (.iconst 0, 1) := by decide +kernel
theorem dX4_variationsAddUp_35 : decode cX4_variationsAddUp 35 = .ok (.ireturn, 1) := by decide +kernel
theorem dX4_accountsAddUp_0 : decode cX4_accountsAddUp 0 = .ok (.aload_n 0, 1) := by decide +kernel
theorem dX4_accountsAddUp_1 : decode cX4_accountsAddUp 1 = .ok (.getfield 61, 3) := by decide +kernel
theorem dX4_accountsAddUp_4 : decode cX4_accountsAddUp 4 = .ok (.i2l, 1) := by decide +kernel
theorem dX4_accountsAddUp_5 : decode cX4_accountsAddUp 5 = .ok (.lstore_n 1, 1) := by decide +kernel
theorem dX4_accountsAddUp_6 : decode cX4_accountsAddUp 6 = .ok (.iconst 0, 1) := by decide +kernel
theorem dX4_accountsAddUp_7 : decode cX4_accountsAddUp 7 = .ok (.istore_n 3, 1) := by decide +kernel
theorem dX4_accountsAddUp_8 : decode cX4_accountsAddUp 8 = .ok (.iload_n 3, 1) := by decide +kernel
theorem dX4_accountsAddUp_9 : decode cX4_accountsAddUp 9 = .ok (.aload_n 0, 1) := by decide +kernel
theorem dX4_accountsAddUp_10 : decode cX4_accountsAddUp 10 = .ok (.getfield 52, 3) := by decide +kernel
theorem dX4_accountsAddUp_13 : decode cX4_accountsAddUp 13 = .ok (.if_icmp .ge 19, 3) := by decide +kernel
theorem dX4_accountsAddUp_16 : decode cX4_accountsAddUp 16 = .ok (.lload_n 1, 1) := by decide +kernel
theorem dX4_accountsAddUp_17 : decode cX4_accountsAddUp 17 = .ok (.aload_n 0, 1) := by decide +kernel
theorem dX4_accountsAddUp_18 : decode cX4_accountsAddUp 18 = .ok (.getfield 21, 3) := by decide +kernel
theorem dX4_accountsAddUp_21 : decode cX4_accountsAddUp 21 = .ok (.iload_n 3, 1) := by decide +kernel
theorem dX4_accountsAddUp_22 : decode cX4_accountsAddUp 22 = .ok (.iaload, 1) := by decide +kernel
theorem dX4_accountsAddUp_23 : decode cX4_accountsAddUp 23 = .ok (.i2l, 1) := by decide +kernel
theorem dX4_accountsAddUp_24 : decode cX4_accountsAddUp 24 = .ok (.ladd, 1) := by decide +kernel
theorem dX4_accountsAddUp_25 : decode cX4_accountsAddUp 25 = .ok (.lstore_n 1, 1) := by decide +kernel
theorem dX4_accountsAddUp_26 : decode cX4_accountsAddUp 26 = .ok (.iinc 3 1, 3) := by decide +kernel
theorem dX4_accountsAddUp_29 : decode cX4_accountsAddUp 29 = .ok (.goto (-21), 3) := by decide +kernel
theorem dX4_accountsAddUp_32 : decode cX4_accountsAddUp 32 = .ok (.lload_n 1, 1) := by decide +kernel
theorem dX4_accountsAddUp_33 : decode cX4_accountsAddUp 33 = .ok (.aload_n 0, 1) := by decide +kernel
theorem dX4_accountsAddUp_34 : decode cX4_accountsAddUp 34 = .ok (.getfield 67, 3) := by decide +kernel
theorem dX4_accountsAddUp_37 : decode cX4_accountsAddUp 37 = .ok (.aload_n 0, 1) := by decide +kernel
theorem dX4_accountsAddUp_38 : decode cX4_accountsAddUp 38 = .ok (.getfield 71, 3) := by decide +kernel
theorem dX4_accountsAddUp_41 : decode cX4_accountsAddUp 41 = .ok (.lsub, 1) := by decide +kernel
theorem dX4_accountsAddUp_42 : decode cX4_accountsAddUp 42 = .ok (.aload_n 0, 1) := by decide +kernel
theorem dX4_accountsAddUp_43 : decode cX4_accountsAddUp 43 = .ok (.getfield 64, 3) := by decide +kernel
theorem dX4_accountsAddUp_46 : decode cX4_accountsAddUp 46 = .ok (.i2l, 1) := by decide +kernel
theorem dX4_accountsAddUp_47 : decode cX4_accountsAddUp 47 = .ok (.ladd, 1) := by decide +kernel
theorem dX4_accountsAddUp_48 : decode cX4_accountsAddUp 48 = .ok (.lcmp, 1) := by decide +kernel
theorem dX4_accountsAddUp_49 : decode cX4_accountsAddUp 49 = .ok (.ifCond .ne 7, 3) := by decide +kernel
theorem dX4_accountsAddUp_52 : decode cX4_accountsAddUp 52 = .ok (.iconst 1, 1) := by decide +kernel
theorem dX4_accountsAddUp_53 : decode cX4_accountsAddUp 53 = .ok (.goto 4, 3) := by decide +kernel
theorem dX4_accountsAddUp_56 : decode cX4_accountsAddUp 56 = .ok (.iconst 0, 1) := by decide +kernel
theorem dX4_accountsAddUp_57 : decode cX4_accountsAddUp 57 = .ok (.ireturn, 1) := by decide +kernel
theorem dX5_init_0 : decode cX5_init 0 = .ok (.aload_n 0, 1) := by decide +kernel
theorem dX5_init_1 : decode cX5_init 1 = .ok (.invokespecial 3, 3) := by decide +kernel
theorem dX5_init_4 : decode cX5_init 4 = .ok (.aload_n 0, 1) := by decide +kernel
theorem dX5_init_5 : decode cX5_init 5 = .ok (.bipush 6, 2) := by decide +kernel
theorem dX5_init_7 : decode cX5_init 7 = .ok (.newarray .int, 2) := by decide +kernel
theorem dX5_init_9 : decode cX5_init 9 = .ok (.putfield 9, 3) := by decide +kernel
theorem dX5_init_12 : decode cX5_init 12 = .ok (.aload_n 0, 1) := by decide +kernel
theorem dX5_init_13 : decode cX5_init 13 = .ok (.bipush 64, 2) := by decide +kernel
theorem dX5_init_15 : decode cX5_init 15 = .ok (.newarray .int, 2) := by decide +kernel
theorem dX5_init_17 : decode cX5_init 17 = .ok (.putfield 15, 3) := by decide +kernel
theorem dX5_init_20 : decode cX5_init 20 = .ok (.aload_n 0, 1) := by decide +kernel
theorem dX5_init_21 : decode cX5_init 21 = .ok (.bipush 6, 2) := by decide +kernel
theorem dX5_init_23 : decode cX5_init 23 = .ok (.newarray .int, 2) := by decide +kernel
theorem dX5_init_25 : decode cX5_init 25 = .ok (.putfield 18, 3) := by decide +kernel
theorem dX5_init_28 : decode cX5_init 28 = .ok (.return_, 1) := by decide +kernel
theorem dX5_prepare_0 : decode cX5_prepare 0 = .ok (.aload_n 0, 1) := by decide +kernel
theorem dX5_prepare_1 : decode cX5_prepare 1 = .ok (.iconst 0, 1) := by decide +kernel
theorem dX5_prepare_2 : decode cX5_prepare 2 = .ok (.putfield 21, 3) := by decide +kernel
theorem dX5_prepare_5 : decode cX5_prepare 5 = .ok (.iconst 0, 1) := by decide +kernel
theorem dX5_prepare_6 : decode cX5_prepare 6 = .ok (.istore_n 2, 1) := by decide +kernel
theorem dX5_prepare_7 : decode cX5_prepare 7 = .ok (.iload_n 2, 1) := by decide +kernel
theorem dX5_prepare_8 : decode cX5_prepare 8 = .ok (.aload_n 1, 1) := by decide +kernel
theorem dX5_prepare_9 : decode cX5_prepare 9 = .ok (.getfield 25, 3) := by decide +kernel
theorem dX5_prepare_12 : decode cX5_prepare 12 = .ok (.if_icmp .ge 39, 3) := by decide +kernel
theorem dX5_prepare_15 : decode cX5_prepare 15 = .ok (.aload_n 1, 1) := by decide +kernel
theorem dX5_prepare_16 : decode cX5_prepare 16 = .ok (.iload_n 2, 1) := by decide +kernel
theorem dX5_prepare_17 : decode cX5_prepare 17 = .ok (.invokevirtual 30, 3) := by decide +kernel
theorem dX5_prepare_20 : decode cX5_prepare 20 = .ok (.istore_n 3, 1) := by decide +kernel
theorem dX5_prepare_21 : decode cX5_prepare 21 = .ok (.iload_n 3, 1) := by decide +kernel
theorem dX5_prepare_22 : decode cX5_prepare 22 = .ok (.ifCond .eq 23, 3) := by decide +kernel
theorem dX5_prepare_25 : decode cX5_prepare 25 = .ok (.aload_n 0, 1) := by decide +kernel
theorem dX5_prepare_26 : decode cX5_prepare 26 = .ok (.getfield 9, 3) := by decide +kernel
theorem dX5_prepare_29 : decode cX5_prepare 29 = .ok (.aload_n 0, 1) := by decide +kernel
theorem dX5_prepare_30 : decode cX5_prepare 30 = .ok (.getfield 21, 3) := by decide +kernel
theorem dX5_prepare_33 : decode cX5_prepare 33 = .ok (.iload_n 3, 1) := by decide +kernel
theorem dX5_prepare_34 : decode cX5_prepare 34 = .ok (.iastore, 1) := by decide +kernel
theorem dX5_prepare_35 : decode cX5_prepare 35 = .ok (.aload_n 0, 1) := by decide +kernel
theorem dX5_prepare_36 : decode cX5_prepare 36 = .ok (.dup, 1) := by decide +kernel
theorem dX5_prepare_37 : decode cX5_prepare 37 = .ok (.getfield 21, 3) := by decide +kernel
theorem dX5_prepare_40 : decode cX5_prepare 40 = .ok (.iconst 1, 1) := by decide +kernel
theorem dX5_prepare_41 : decode cX5_prepare 41 = .ok (.iadd, 1) := by decide +kernel
theorem dX5_prepare_42 : decode cX5_prepare 42 = .ok (.putfield 21, 3) := by decide +kernel
theorem dX5_prepare_45 : decode cX5_prepare 45 = .ok (.iinc 2 1, 3) := by decide +kernel
theorem dX5_prepare_48 : decode cX5_prepare 48 = .ok (.goto (-41), 3) := by decide +kernel
theorem dX5_prepare_51 : decode cX5_prepare 51 = .ok (.return_, 1) := by decide +kernel
theorem dX5_leastOverSets_0 : decode cX5_leastOverSets 0 = .ok (.aload_n 0, 1) := by decide +kernel
theorem dX5_leastOverSets_1 : decode cX5_leastOverSets 1 = .ok (.getfield 15, 3) := by decide +kernel
theorem dX5_leastOverSets_4 : decode cX5_leastOverSets 4 = .ok (.iconst 0, 1) := by decide +kernel
theorem dX5_leastOverSets_5 : decode cX5_leastOverSets 5 = .ok (.iconst 0, 1) := by decide +kernel
theorem dX5_leastOverSets_6 : decode cX5_leastOverSets 6 = .ok (.iastore, 1) := by decide +kernel
theorem dX5_leastOverSets_7 : decode cX5_leastOverSets 7 = .ok (.iconst 1, 1) := by decide +kernel
theorem dX5_leastOverSets_8 : decode cX5_leastOverSets 8 = .ok (.istore_n 1, 1) := by decide +kernel
theorem dX5_leastOverSets_9 : decode cX5_leastOverSets 9 = .ok (.iload_n 1, 1) := by decide +kernel
theorem dX5_leastOverSets_10 : decode cX5_leastOverSets 10 = .ok (.iconst 1, 1) := by decide +kernel
theorem dX5_leastOverSets_11 : decode cX5_leastOverSets 11 = .ok (.aload_n 0, 1) := by decide +kernel
theorem dX5_leastOverSets_12 : decode cX5_leastOverSets 12 = .ok (.getfield 21, 3) := by decide +kernel
theorem dX5_leastOverSets_15 : decode cX5_leastOverSets 15 = .ok (.ishl, 1) := by decide +kernel
theorem dX5_leastOverSets_16 : decode cX5_leastOverSets 16 = .ok (.if_icmp .ge 83, 3) := by decide +kernel
theorem dX5_leastOverSets_19 : decode cX5_leastOverSets 19 = .ok (.iconst 0, 1) := by decide +kernel
theorem dX5_leastOverSets_20 : decode cX5_leastOverSets 20 = .ok (.istore_n 2, 1) := by decide +kernel
theorem dX5_leastOverSets_21 : decode cX5_leastOverSets 21 = .ok (.iconst 0, 1) := by decide +kernel
theorem dX5_leastOverSets_22 : decode cX5_leastOverSets 22 = .ok (.istore_n 3, 1) := by decide +kernel
theorem dX5_leastOverSets_23 : decode cX5_leastOverSets 23 = .ok (.iconst 0, 1) := by decide +kernel
theorem dX5_leastOverSets_24 : decode cX5_leastOverSets 24 = .ok (.istore 4, 2) := by decide +kernel
theorem dX5_leastOverSets_26 : decode cX5_leastOverSets 26 = .ok (.iload 4, 2) := by decide +kernel
theorem dX5_leastOverSets_28 : decode cX5_leastOverSets 28 = .ok (.aload_n 0, 1) := by decide +kernel
theorem dX5_leastOverSets_29 : decode cX5_leastOverSets 29 = .ok (.getfield 21, 3) := by decide +kernel
theorem dX5_leastOverSets_32 : decode cX5_leastOverSets 32 = .ok (.if_icmp .ge 44, 3) := by decide +kernel
theorem dX5_leastOverSets_35 : decode cX5_leastOverSets 35 = .ok (.iload_n 1, 1) := by decide +kernel
theorem dX5_leastOverSets_36 : decode cX5_leastOverSets 36 = .ok (.iload 4, 2) := by decide +kernel
theorem dX5_leastOverSets_38 : decode cX5_leastOverSets 38 = .ok (.ishr, 1) := by decide +kernel
theorem dX5_leastOverSets_39 : decode cX5_leastOverSets 39 = .ok (.iconst 1, 1) := by decide +kernel
theorem dX5_leastOverSets_40 : decode cX5_leastOverSets 40 = .ok (.iand, 1) := by decide +kernel
theorem dX5_leastOverSets_41 : decode cX5_leastOverSets 41 = .ok (.ifCond .eq 29, 3) := by decide +kernel
theorem dX5_leastOverSets_44 : decode cX5_leastOverSets 44 = .ok (.iload_n 2, 1) := by decide +kernel
theorem dX5_leastOverSets_45 : decode cX5_leastOverSets 45 = .ok (.aload_n 0, 1) := by decide +kernel
theorem dX5_leastOverSets_46 : decode cX5_leastOverSets 46 = .ok (.getfield 9, 3) := by decide +kernel
theorem dX5_leastOverSets_49 : decode cX5_leastOverSets 49 = .ok (.iload 4, 2) := by decide +kernel
theorem dX5_leastOverSets_51 : decode cX5_leastOverSets 51 = .ok (.iaload, 1) := by decide +kernel
theorem dX5_leastOverSets_52 : decode cX5_leastOverSets 52 = .ok (.iadd, 1) := by decide +kernel
theorem dX5_leastOverSets_53 : decode cX5_leastOverSets 53 = .ok (.istore_n 2, 1) := by decide +kernel
theorem dX5_leastOverSets_54 : decode cX5_leastOverSets 54 = .ok (.iload_n 3, 1) := by decide +kernel
theorem dX5_leastOverSets_55 : decode cX5_leastOverSets 55 = .ok (.aload_n 0, 1) := by decide +kernel
theorem dX5_leastOverSets_56 : decode cX5_leastOverSets 56 = .ok (.getfield 15, 3) := by decide +kernel
theorem dX5_leastOverSets_59 : decode cX5_leastOverSets 59 = .ok (.iload_n 1, 1) := by decide +kernel
theorem dX5_leastOverSets_60 : decode cX5_leastOverSets 60 = .ok (.iconst 1, 1) := by decide +kernel
theorem dX5_leastOverSets_61 : decode cX5_leastOverSets 61 = .ok (.iload 4, 2) := by decide +kernel
theorem dX5_leastOverSets_63 : decode cX5_leastOverSets 63 = .ok (.ishl, 1) := by decide +kernel
theorem dX5_leastOverSets_64 : decode cX5_leastOverSets 64 = .ok (.ixor, 1) := by decide +kernel
theorem dX5_leastOverSets_65 : decode cX5_leastOverSets 65 = .ok (.iaload, 1) := by decide +kernel
theorem dX5_leastOverSets_66 : decode cX5_leastOverSets 66 = .ok (.invokestatic 34, 3) := by decide +kernel
theorem dX5_leastOverSets_69 : decode cX5_leastOverSets 69 = .ok (.istore_n 3, 1) := by decide +kernel
theorem dX5_leastOverSets_70 : decode cX5_leastOverSets 70 = .ok (.iinc 4 1, 3) := by decide +kernel
theorem dX5_leastOverSets_73 : decode cX5_leastOverSets 73 = .ok (.goto (-47), 3) := by decide +kernel
theorem dX5_leastOverSets_76 : decode cX5_leastOverSets 76 = .ok (.aload_n 0, 1) := by decide +kernel
theorem dX5_leastOverSets_77 : decode cX5_leastOverSets 77 = .ok (.getfield 15, 3) := by decide +kernel
theorem dX5_leastOverSets_80 : decode cX5_leastOverSets 80 = .ok (.iload_n 1, 1) := by decide +kernel
theorem dX5_leastOverSets_81 : decode cX5_leastOverSets 81 = .ok (.iload_n 2, 1) := by decide +kernel
theorem dX5_leastOverSets_82 : decode cX5_leastOverSets 82 = .ok (.ifCond .ne 9, 3) := by decide +kernel
theorem dX5_leastOverSets_85 : decode cX5_leastOverSets 85 = .ok (.iload_n 3, 1) := by decide +kernel
theorem dX5_leastOverSets_86 : decode cX5_leastOverSets 86 = .ok (.iconst 1, 1) := by decide +kernel
theorem dX5_leastOverSets_87 : decode cX5_leastOverSets 87 = .ok (.iadd, 1) := by decide +kernel
theorem dX5_leastOverSets_88 : decode cX5_leastOverSets 88 = .ok (.goto 4, 3) := by decide +kernel
theorem dX5_leastOverSets_91 : decode cX5_leastOverSets 91 = .ok (.iload_n 3, 1) := by decide +kernel
theorem dX5_leastOverSets_92 : decode cX5_leastOverSets 92 = .ok (.iastore, 1) := by decide +kernel
theorem dX5_leastOverSets_93 : decode cX5_leastOverSets 93 = .ok (.iinc 1 1, 3) := by decide +kernel
theorem dX5_leastOverSets_96 : decode cX5_leastOverSets 96 = .ok (.goto (-87), 3) := by decide +kernel
theorem dX5_leastOverSets_99 : decode cX5_leastOverSets 99 = .ok (.aload_n 0, 1) := by decide +kernel
theorem dX5_leastOverSets_100 : decode cX5_leastOverSets 100 = .ok (.getfield 21, 3) := by decide +kernel
theorem dX5_leastOverSets_103 : decode cX5_leastOverSets 103 = .ok (.aload_n 0, 1) := by decide +kernel
theorem dX5_leastOverSets_104 : decode cX5_leastOverSets 104 = .ok (.getfield 15, 3) := by decide +kernel
theorem dX5_leastOverSets_107 : decode cX5_leastOverSets 107 = .ok (.iconst 1, 1) := by decide +kernel
theorem dX5_leastOverSets_108 : decode cX5_leastOverSets 108 = .ok (.aload_n 0, 1) := by decide +kernel
theorem dX5_leastOverSets_109 : decode cX5_leastOverSets 109 = .ok (.getfield 21, 3) := by decide +kernel
theorem dX5_leastOverSets_112 : decode cX5_leastOverSets 112 = .ok (.ishl, 1) := by decide +kernel
theorem dX5_leastOverSets_113 : decode cX5_leastOverSets 113 = .ok (.iconst 1, 1) := by decide +kernel
theorem dX5_leastOverSets_114 : decode cX5_leastOverSets 114 = .ok (.isub, 1) := by decide +kernel
theorem dX5_leastOverSets_115 : decode cX5_leastOverSets 115 = .ok (.iaload, 1) := by decide +kernel
theorem dX5_leastOverSets_116 : decode cX5_leastOverSets 116 = .ok (.isub, 1) := by decide +kernel
theorem dX5_leastOverSets_117 : decode cX5_leastOverSets 117 = .ok (.ireturn, 1) := by decide +kernel
theorem dX5_leastOverGroups_0 : decode cX5_leastOverGroups 0 = .ok (.aload_n 0, 1) := by decide +kernel
theorem dX5_leastOverGroups_1 : decode cX5_leastOverGroups 1 = .ok (.iconst 0, 1) := by decide +kernel
theorem dX5_leastOverGroups_2 : decode cX5_leastOverGroups 2 = .ok (.putfield 40, 3) := by decide +kernel
theorem dX5_leastOverGroups_5 : decode cX5_leastOverGroups 5 = .ok (.aload_n 0, 1) := by decide +kernel
theorem dX5_leastOverGroups_6 : decode cX5_leastOverGroups 6 = .ok (.iconst 0, 1) := by decide +kernel
theorem dX5_leastOverGroups_7 : decode cX5_leastOverGroups 7 = .ok (.iconst 0, 1) := by decide +kernel
theorem dX5_leastOverGroups_8 : decode cX5_leastOverGroups 8 = .ok (.invokevirtual 43, 3) := by decide +kernel
theorem dX5_leastOverGroups_11 : decode cX5_leastOverGroups 11 = .ok (.aload_n 0, 1) := by decide +kernel
theorem dX5_leastOverGroups_12 : decode cX5_leastOverGroups 12 = .ok (.getfield 21, 3) := by decide +kernel
theorem dX5_leastOverGroups_15 : decode cX5_leastOverGroups 15 = .ok (.aload_n 0, 1) := by decide +kernel
theorem dX5_leastOverGroups_16 : decode cX5_leastOverGroups 16 = .ok (.getfield 40, 3) := by decide +kernel
theorem dX5_leastOverGroups_19 : decode cX5_leastOverGroups 19 = .ok (.isub, 1) := by decide +kernel
theorem dX5_leastOverGroups_20 : decode cX5_leastOverGroups 20 = .ok (.ireturn, 1) := by decide +kernel
theorem dX5_putIntoGroups_0 : decode cX5_putIntoGroups 0 = .ok (.iload_n 1, 1) := by decide +kernel
theorem dX5_putIntoGroups_1 : decode cX5_putIntoGroups 1 = .ok (.aload_n 0, 1) := by decide +kernel
theorem dX5_putIntoGroups_2 : decode cX5_putIntoGroups 2 = .ok (.getfield 21, 3) := by decide +kernel
theorem dX5_putIntoGroups_5 : decode cX5_putIntoGroups 5 = .ok (.if_icmp .lt 24, 3) := by decide +kernel
theorem dX5_putIntoGroups_8 : decode cX5_putIntoGroups 8 = .ok (.aload_n 0, 1) := by decide +kernel
theorem dX5_putIntoGroups_9 : decode cX5_putIntoGroups 9 = .ok (.iload_n 2, 1) := by decide +kernel
theorem dX5_putIntoGroups_10 : decode cX5_putIntoGroups 10 = .ok (.invokevirtual 47, 3) := by decide +kernel
theorem dX5_putIntoGroups_13 : decode cX5_putIntoGroups 13 = .ok (.ifCond .eq 15, 3) := by decide +kernel
theorem dX5_putIntoGroups_16 : decode cX5_putIntoGroups 16 = .ok (.aload_n 0, 1) := by decide +kernel
theorem dX5_putIntoGroups_17 : decode cX5_putIntoGroups 17 = .ok (.aload_n 0, 1) := by decide +kernel
theorem dX5_putIntoGroups_18 : decode cX5_putIntoGroups 18 = .ok (.getfield 40, 3) := by decide +kernel
theorem dX5_putIntoGroups_21 : decode cX5_putIntoGroups 21 = .ok (.iload_n 2, 1) := by decide +kernel
theorem dX5_putIntoGroups_22 : decode cX5_putIntoGroups 22 = .ok (.invokestatic 34, 3) := by decide +kernel
theorem dX5_putIntoGroups_25 : decode cX5_putIntoGroups 25 = .ok (.putfield 40, 3) := by decide +kernel
theorem dX5_putIntoGroups_28 : decode cX5_putIntoGroups 28 = .ok (.return_, 1) := by decide +kernel
theorem dX5_putIntoGroups_29 : decode cX5_putIntoGroups 29 = .ok (.iconst 0, 1) := by decide +kernel
theorem dX5_putIntoGroups_30 : decode cX5_putIntoGroups 30 = .ok (.istore_n 3, 1) := by decide +kernel
theorem dX5_putIntoGroups_31 : decode cX5_putIntoGroups 31 = .ok (.iload_n 3, 1) := by decide +kernel
theorem dX5_putIntoGroups_32 : decode cX5_putIntoGroups 32 = .ok (.iload_n 2, 1) := by decide +kernel
theorem dX5_putIntoGroups_33 : decode cX5_putIntoGroups 33 = .ok (.if_icmp .ge 47, 3) := by decide +kernel
theorem dX5_putIntoGroups_36 : decode cX5_putIntoGroups 36 = .ok (.aload_n 0, 1) := by decide +kernel
theorem dX5_putIntoGroups_37 : decode cX5_putIntoGroups 37 = .ok (.getfield 18, 3) := by decide +kernel
theorem dX5_putIntoGroups_40 : decode cX5_putIntoGroups 40 = .ok (.iload_n 3, 1) := by decide +kernel
theorem dX5_putIntoGroups_41 : decode cX5_putIntoGroups 41 = .ok (.dup2, 1) := by decide +kernel
theorem dX5_putIntoGroups_42 : decode cX5_putIntoGroups 42 = .ok (.iaload, 1) := by decide +kernel
theorem dX5_putIntoGroups_43 : decode cX5_putIntoGroups 43 = .ok (.aload_n 0, 1) := by decide +kernel
theorem dX5_putIntoGroups_44 : decode cX5_putIntoGroups 44 = .ok (.getfield 9, 3) := by decide +kernel
theorem dX5_putIntoGroups_47 : decode cX5_putIntoGroups 47 = .ok (.iload_n 1, 1) := by decide +kernel
theorem dX5_putIntoGroups_48 : decode cX5_putIntoGroups 48 = .ok (.iaload, 1) := by decide +kernel
theorem dX5_putIntoGroups_49 : decode cX5_putIntoGroups 49 = .ok (.iadd, 1) := by decide +kernel
theorem dX5_putIntoGroups_50 : decode cX5_putIntoGroups 50 = .ok (.iastore, 1) := by decide +kernel
theorem dX5_putIntoGroups_51 : decode cX5_putIntoGroups 51 = .ok (.aload_n 0, 1) := by decide +kernel
theorem dX5_putIntoGroups_52 : decode cX5_putIntoGroups 52 = .ok (.iload_n 1, 1) := by decide +kernel
theorem dX5_putIntoGroups_53 : decode cX5_putIntoGroups 53 = .ok (.iconst 1, 1) := by decide +kernel
theorem dX5_putIntoGroups_54 : decode cX5_putIntoGroups 54 = .ok (.iadd, 1) := by decide +kernel
theorem dX5_putIntoGroups_55 : decode cX5_putIntoGroups 55 = .ok (.iload_n 2, 1) := by decide +kernel
theorem dX5_putIntoGroups_56 : decode cX5_putIntoGroups 56 = .ok (.invokevirtual 43, 3) := by decide +kernel
theorem dX5_putIntoGroups_59 : decode cX5_putIntoGroups 59 = .ok (.aload_n 0, 1) := by decide +kernel
theorem dX5_putIntoGroups_60 : decode cX5_putIntoGroups 60 = .ok (.getfield 18, 3) := by decide +kernel
theorem dX5_putIntoGroups_63 : decode cX5_putIntoGroups 63 = .ok (.iload_n 3, 1) := by decide +kernel
theorem dX5_putIntoGroups_64 : decode cX5_putIntoGroups 64 = .ok (.dup2, 1) := by decide +kernel
theorem dX5_putIntoGroups_65 : decode cX5_putIntoGroups 65 = .ok (.iaload, 1) := by decide +kernel
theorem dX5_putIntoGroups_66 : decode cX5_putIntoGroups 66 = .ok (.aload_n 0, 1) := by decide +kernel
theorem dX5_putIntoGroups_67 : decode cX5_putIntoGroups 67 = .ok (.getfield 9, 3) := by decide +kernel
theorem dX5_putIntoGroups_70 : decode cX5_putIntoGroups 70 = .ok (.iload_n 1, 1) := by decide +kernel
theorem dX5_putIntoGroups_71 : decode cX5_putIntoGroups 71 = .ok (.iaload, 1) := by decide +kernel
theorem dX5_putIntoGroups_72 : decode cX5_putIntoGroups 72 = .ok (.isub, 1) := by decide +kernel
theorem dX5_putIntoGroups_73 : decode cX5_putIntoGroups 73 = .ok (.iastore, 1) := by decide +kernel
theorem dX5_putIntoGroups_74 : decode cX5_putIntoGroups 74 = .ok (.iinc 3 1, 3) := by decide +kernel
theorem dX5_putIntoGroups_77 : decode cX5_putIntoGroups 77 = .ok (.goto (-46), 3) := by decide +kernel
theorem dX5_putIntoGroups_80 : decode cX5_putIntoGroups 80 = .ok (.aload_n 0, 1) := by decide +kernel
theorem dX5_putIntoGroups_81 : decode cX5_putIntoGroups 81 = .ok (.getfield 18, 3) := by decide +kernel
theorem dX5_putIntoGroups_84 : decode cX5_putIntoGroups 84 = .ok (.iload_n 2, 1) := by decide +kernel
theorem dX5_putIntoGroups_85 : decode cX5_putIntoGroups 85 = .ok (.aload_n 0, 1) := by decide +kernel
theorem dX5_putIntoGroups_86 : decode cX5_putIntoGroups 86 = .ok (.getfield 9, 3) := by decide +kernel
theorem dX5_putIntoGroups_89 : decode cX5_putIntoGroups 89 = .ok (.iload_n 1, 1) := by decide +kernel
theorem dX5_putIntoGroups_90 : decode cX5_putIntoGroups 90 = .ok (.iaload, 1) := by decide +kernel
theorem dX5_putIntoGroups_91 : decode cX5_putIntoGroups 91 = .ok (.iastore, 1) := by decide +kernel
theorem dX5_putIntoGroups_92 : decode cX5_putIntoGroups 92 = .ok (.aload_n 0, 1) := by decide +kernel
theorem dX5_putIntoGroups_93 : decode cX5_putIntoGroups 93 = .ok (.iload_n 1, 1) := by decide +kernel
theorem dX5_putIntoGroups_94 : decode cX5_putIntoGroups 94 = .ok (.iconst 1, 1) := by decide +kernel
theorem dX5_putIntoGroups_95 : decode cX5_putIntoGroups 95 = .ok (.iadd, 1) := by decide +kernel
theorem dX5_putIntoGroups_96 : decode cX5_putIntoGroups 96 = .ok (.iload_n 2, 1) := by decide +kernel
theorem dX5_putIntoGroups_97 : decode cX5_putIntoGroups 97 = .ok (.iconst 1, 1) := by decide +kernel
theorem dX5_putIntoGroups_98 : decode cX5_putIntoGroups 98 = .ok (.iadd, 1) := by decide +kernel
theorem dX5_putIntoGroups_99 : decode cX5_putIntoGroups 99 = .ok (.invokevirtual 43, 3) := by decide +kernel
theorem dX5_putIntoGroups_102 : decode cX5_putIntoGroups 102 = .ok (.return_, 1) := by decide +kernel
theorem dX5_areSettled_0 : decode cX5_areSettled 0 = .ok (.iconst 0, 1) := by decide +kernel
theorem dX5_areSettled_1 : decode cX5_areSettled 1 = .ok (.istore_n 2, 1) := by decide +kernel
theorem dX5_areSettled_2 : decode cX5_areSettled 2 = .ok (.iload_n 2, 1) := by decide +kernel
theorem dX5_areSettled_3 : decode cX5_areSettled 3 = .ok (.iload_n 1, 1) := by decide +kernel
theorem dX5_areSettled_4 : decode cX5_areSettled 4 = .ok (.if_icmp .ge 20, 3) := by decide +kernel
theorem dX5_areSettled_7 : decode cX5_areSettled 7 = .ok (.aload_n 0, 1) := by decide +kernel
theorem dX5_areSettled_8 : decode cX5_areSettled 8 = .ok (.getfield 18, 3) := by decide +kernel
theorem dX5_areSettled_11 : decode cX5_areSettled 11 = .ok (.iload_n 2, 1) := by decide +kernel
theorem dX5_areSettled_12 : decode cX5_areSettled 12 = .ok (.iaload, 1) := by decide +kernel
theorem dX5_areSettled_13 : decode cX5_areSettled 13 = .ok (.ifCond .eq 5, 3) := by decide +kernel
theorem dX5_areSettled_16 : decode cX5_areSettled 16 = .ok (.iconst 0, 1) := by decide +kernel
theorem dX5_areSettled_17 : decode cX5_areSettled 17 = .ok (.ireturn, 1) := by decide +kernel
theorem dX5_areSettled_18 : decode cX5_areSettled 18 = .ok (.iinc 2 1, 3) := by decide +kernel
theorem dX5_areSettled_21 : decode cX5_areSettled 21 = .ok (.goto (-19), 3) := by decide +kernel
theorem dX5_areSettled_24 : decode cX5_areSettled 24 = .ok (.iconst 1, 1) := by decide +kernel
theorem dX5_areSettled_25 : decode cX5_areSettled 25 = .ok (.ireturn, 1) := by decide +kernel
theorem dX6_init_0 : decode cX6_init 0 = .ok (.aload_n 0, 1) := by decide +kernel
theorem dX6_init_1 : decode cX6_init 1 = .ok (.invokespecial 3, 3) := by decide +kernel
theorem dX6_init_4 : decode cX6_init 4 = .ok (.aload_n 0, 1) := by decide +kernel
theorem dX6_init_5 : decode cX6_init 5 = .ok (.bipush 6, 2) := by decide +kernel
theorem dX6_init_7 : decode cX6_init 7 = .ok (.iconst 4, 1) := by decide +kernel
theorem dX6_init_8 : decode cX6_init 8 = .ok (.multianewarray 9 2, 4) := by decide +kernel
theorem dX6_init_12 : decode cX6_init 12 = .ok (.putfield 11, 3) := by decide +kernel
theorem dX6_init_15 : decode cX6_init 15 = .ok (.aload_n 0, 1) := by decide +kernel
theorem dX6_init_16 : decode cX6_init 16 = .ok (.iconst 4, 1) := by decide +kernel
theorem dX6_init_17 : decode cX6_init 17 = .ok (.newarray .int, 2) := by decide +kernel
theorem dX6_init_19 : decode cX6_init 19 = .ok (.putfield 16, 3) := by decide +kernel
theorem dX6_init_22 : decode cX6_init 22 = .ok (.aload_n 0, 1) := by decide +kernel
theorem dX6_init_23 : decode cX6_init 23 = .ok (.iconst 4, 1) := by decide +kernel
theorem dX6_init_24 : decode cX6_init 24 = .ok (.newarray .int, 2) := by decide +kernel
theorem dX6_init_26 : decode cX6_init 26 = .ok (.putfield 20, 3) := by decide +kernel
theorem dX6_init_29 : decode cX6_init 29 = .ok (.aload_n 0, 1) := by decide +kernel
theorem dX6_init_30 : decode cX6_init 30 = .ok (.iconst 4, 1) := by decide +kernel
theorem dX6_init_31 : decode cX6_init 31 = .ok (.newarray .int, 2) := by decide +kernel
theorem dX6_init_33 : decode cX6_init 33 = .ok (.putfield 23, 3) := by decide +kernel
theorem dX6_init_36 : decode cX6_init 36 = .ok (.aload_n 0, 1) := by decide +kernel
theorem dX6_init_37 : decode cX6_init 37 = .ok (.iconst 4, 1) := by decide +kernel
theorem dX6_init_38 : decode cX6_init 38 = .ok (.newarray .int, 2) := by decide +kernel
theorem dX6_init_40 : decode cX6_init 40 = .ok (.putfield 26, 3) := by decide +kernel
theorem dX6_init_43 : decode cX6_init 43 = .ok (.aload_n 0, 1) := by decide +kernel
theorem dX6_init_44 : decode cX6_init 44 = .ok (.bipush 64, 2) := by decide +kernel
theorem dX6_init_46 : decode cX6_init 46 = .ok (.newarray .int, 2) := by decide +kernel
theorem dX6_init_48 : decode cX6_init 48 = .ok (.putfield 29, 3) := by decide +kernel
theorem dX6_init_51 : decode cX6_init 51 = .ok (.return_, 1) := by decide +kernel
theorem dX6_prepare_0 : decode cX6_prepare 0 = .ok (.aload_n 0, 1) := by decide +kernel
theorem dX6_prepare_1 : decode cX6_prepare 1 = .ok (.iconst 0, 1) := by decide +kernel
theorem dX6_prepare_2 : decode cX6_prepare 2 = .ok (.putfield 32, 3) := by decide +kernel
theorem dX6_prepare_5 : decode cX6_prepare 5 = .ok (.iconst 0, 1) := by decide +kernel
theorem dX6_prepare_6 : decode cX6_prepare 6 = .ok (.istore_n 3, 1) := by decide +kernel
theorem dX6_prepare_7 : decode cX6_prepare 7 = .ok (.iload_n 3, 1) := by decide +kernel
theorem dX6_prepare_8 : decode cX6_prepare 8 = .ok (.aload_n 1, 1) := by decide +kernel
theorem dX6_prepare_9 : decode cX6_prepare 9 = .ok (.getfield 36, 3) := by decide +kernel
theorem dX6_prepare_12 : decode cX6_prepare 12 = .ok (.if_icmp .ge 35, 3) := by decide +kernel
theorem dX6_prepare_15 : decode cX6_prepare 15 = .ok (.iload_n 3, 1) := by decide +kernel
theorem dX6_prepare_16 : decode cX6_prepare 16 = .ok (.iload_n 2, 1) := by decide +kernel
theorem dX6_prepare_17 : decode cX6_prepare 17 = .ok (.if_icmp .eq 24, 3) := by decide +kernel
theorem dX6_prepare_20 : decode cX6_prepare 20 = .ok (.aload_n 1, 1) := by decide +kernel
theorem dX6_prepare_21 : decode cX6_prepare 21 = .ok (.getfield 41, 3) := by decide +kernel
theorem dX6_prepare_24 : decode cX6_prepare 24 = .ok (.iload_n 3, 1) := by decide +kernel
theorem dX6_prepare_25 : decode cX6_prepare 25 = .ok (.iaload, 1) := by decide +kernel
theorem dX6_prepare_26 : decode cX6_prepare 26 = .ok (.ifCond .ne 15, 3) := by decide +kernel
theorem dX6_prepare_29 : decode cX6_prepare 29 = .ok (.aload_n 0, 1) := by decide +kernel
theorem dX6_prepare_30 : decode cX6_prepare 30 = .ok (.dup, 1) := by decide +kernel
theorem dX6_prepare_31 : decode cX6_prepare 31 = .ok (.getfield 32, 3) := by decide +kernel
theorem dX6_prepare_34 : decode cX6_prepare 34 = .ok (.iconst 1, 1) := by decide +kernel
theorem dX6_prepare_35 : decode cX6_prepare 35 = .ok (.iload_n 3, 1) := by decide +kernel
theorem dX6_prepare_36 : decode cX6_prepare 36 = .ok (.ishl, 1) := by decide +kernel
theorem dX6_prepare_37 : decode cX6_prepare 37 = .ok (.ior, 1) := by decide +kernel
theorem dX6_prepare_38 : decode cX6_prepare 38 = .ok (.putfield 32, 3) := by decide +kernel
theorem dX6_prepare_41 : decode cX6_prepare 41 = .ok (.iinc 3 1, 3) := by decide +kernel
theorem dX6_prepare_44 : decode cX6_prepare 44 = .ok (.goto (-37), 3) := by decide +kernel
theorem dX6_prepare_47 : decode cX6_prepare 47 = .ok (.aload_n 0, 1) := by decide +kernel
theorem dX6_prepare_48 : decode cX6_prepare 48 = .ok (.iconst 0, 1) := by decide +kernel
theorem dX6_prepare_49 : decode cX6_prepare 49 = .ok (.putfield 44, 3) := by decide +kernel
theorem dX6_prepare_52 : decode cX6_prepare 52 = .ok (.iconst 0, 1) := by decide +kernel
theorem dX6_prepare_53 : decode cX6_prepare 53 = .ok (.istore_n 3, 1) := by decide +kernel
theorem dX6_prepare_54 : decode cX6_prepare 54 = .ok (.iload_n 3, 1) := by decide +kernel
theorem dX6_prepare_55 : decode cX6_prepare 55 = .ok (.aload_n 1, 1) := by decide +kernel
theorem dX6_prepare_56 : decode cX6_prepare 56 = .ok (.getfield 47, 3) := by decide +kernel
theorem dX6_prepare_59 : decode cX6_prepare 59 = .ok (.if_icmp .ge 101, 3) := by decide +kernel
theorem dX6_prepare_62 : decode cX6_prepare 62 = .ok (.aload_n 1, 1) := by decide +kernel
theorem dX6_prepare_63 : decode cX6_prepare 63 = .ok (.iload_n 2, 1) := by decide +kernel
theorem dX6_prepare_64 : decode cX6_prepare 64 = .ok (.iload_n 3, 1) := by decide +kernel
theorem dX6_prepare_65 : decode cX6_prepare 65 = .ok (.invokevirtual 49, 3) := by decide +kernel
theorem dX6_prepare_68 : decode cX6_prepare 68 = .ok (.istore 4, 2) := by decide +kernel
theorem dX6_prepare_70 : decode cX6_prepare 70 = .ok (.iload 4, 2) := by decide +kernel
theorem dX6_prepare_72 : decode cX6_prepare 72 = .ok (.ifCond .eq 34, 3) := by decide +kernel
theorem dX6_prepare_75 : decode cX6_prepare 75 = .ok (.aload_n 0, 1) := by decide +kernel
theorem dX6_prepare_76 : decode cX6_prepare 76 = .ok (.getfield 16, 3) := by decide +kernel
theorem dX6_prepare_79 : decode cX6_prepare 79 = .ok (.aload_n 0, 1) := by decide +kernel
theorem dX6_prepare_80 : decode cX6_prepare 80 = .ok (.getfield 44, 3) := by decide +kernel
theorem dX6_prepare_83 : decode cX6_prepare 83 = .ok (.iload_n 3, 1) := by decide +kernel
theorem dX6_prepare_84 : decode cX6_prepare 84 = .ok (.iastore, 1) := by decide +kernel
theorem dX6_prepare_85 : decode cX6_prepare 85 = .ok (.aload_n 0, 1) := by decide +kernel
theorem dX6_prepare_86 : decode cX6_prepare 86 = .ok (.getfield 20, 3) := by decide +kernel
theorem dX6_prepare_89 : decode cX6_prepare 89 = .ok (.aload_n 0, 1) := by decide +kernel
theorem dX6_prepare_90 : decode cX6_prepare 90 = .ok (.getfield 44, 3) := by decide +kernel
theorem dX6_prepare_93 : decode cX6_prepare 93 = .ok (.iload 4, 2) := by decide +kernel
theorem dX6_prepare_95 : decode cX6_prepare 95 = .ok (.iastore, 1) := by decide +kernel
theorem dX6_prepare_96 : decode cX6_prepare 96 = .ok (.aload_n 0, 1) := by decide +kernel
theorem dX6_prepare_97 : decode cX6_prepare 97 = .ok (.dup, 1) := by decide +kernel
theorem dX6_prepare_98 : decode cX6_prepare 98 = .ok (.getfield 44, 3) := by decide +kernel
theorem dX6_prepare_101 : decode cX6_prepare 101 = .ok (.iconst 1, 1) := by decide +kernel
theorem dX6_prepare_102 : decode cX6_prepare 102 = .ok (.iadd, 1) := by decide +kernel
theorem dX6_prepare_103 : decode cX6_prepare 103 = .ok (.putfield 44, 3) := by decide +kernel
theorem dX6_prepare_106 : decode cX6_prepare 106 = .ok (.iload 4, 2) := by decide +kernel
theorem dX6_prepare_108 : decode cX6_prepare 108 = .ok (.ifCond .ne 7, 3) := by decide +kernel
theorem dX6_prepare_111 : decode cX6_prepare 111 = .ok (.iload_n 2, 1) := by decide +kernel
theorem dX6_prepare_112 : decode cX6_prepare 112 = .ok (.goto 4, 3) := by decide +kernel
theorem dX6_prepare_115 : decode cX6_prepare 115 = .ok (.iconst (-1), 1) := by decide +kernel
theorem dX6_prepare_116 : decode cX6_prepare 116 = .ok (.istore 5, 2) := by decide +kernel
theorem dX6_prepare_118 : decode cX6_prepare 118 = .ok (.iconst 0, 1) := by decide +kernel
theorem dX6_prepare_119 : decode cX6_prepare 119 = .ok (.istore 6, 2) := by decide +kernel
theorem dX6_prepare_121 : decode cX6_prepare 121 = .ok (.iload 6, 2) := by decide +kernel
theorem dX6_prepare_123 : decode cX6_prepare 123 = .ok (.aload_n 1, 1) := by decide +kernel
theorem dX6_prepare_124 : decode cX6_prepare 124 = .ok (.getfield 36, 3) := by decide +kernel
theorem dX6_prepare_127 : decode cX6_prepare 127 = .ok (.if_icmp .ge 27, 3) := by decide +kernel
theorem dX6_prepare_130 : decode cX6_prepare 130 = .ok (.aload_n 0, 1) := by decide +kernel
theorem dX6_prepare_131 : decode cX6_prepare 131 = .ok (.getfield 11, 3) := by decide +kernel
theorem dX6_prepare_134 : decode cX6_prepare 134 = .ok (.iload 6, 2) := by decide +kernel
theorem dX6_prepare_136 : decode cX6_prepare 136 = .ok (.aaload, 1) := by decide +kernel
theorem dX6_prepare_137 : decode cX6_prepare 137 = .ok (.iload_n 3, 1) := by decide +kernel
theorem dX6_prepare_138 : decode cX6_prepare 138 = .ok (.aload_n 1, 1) := by decide +kernel
theorem dX6_prepare_139 : decode cX6_prepare 139 = .ok (.iload 6, 2) := by decide +kernel
theorem dX6_prepare_141 : decode cX6_prepare 141 = .ok (.iload_n 3, 1) := by decide +kernel
theorem dX6_prepare_142 : decode cX6_prepare 142 = .ok (.iload 5, 2) := by decide +kernel
theorem dX6_prepare_144 : decode cX6_prepare 144 = .ok (.invokevirtual 53, 3) := by decide +kernel
theorem dX6_prepare_147 : decode cX6_prepare 147 = .ok (.iastore, 1) := by decide +kernel
theorem dX6_prepare_148 : decode cX6_prepare 148 = .ok (.iinc 6 1, 3) := by decide +kernel
theorem dX6_prepare_151 : decode cX6_prepare 151 = .ok (.goto (-30), 3) := by decide +kernel
theorem dX6_prepare_154 : decode cX6_prepare 154 = .ok (.iinc 3 1, 3) := by decide +kernel
theorem dX6_prepare_157 : decode cX6_prepare 157 = .ok (.goto (-103), 3) := by decide +kernel
theorem dX6_prepare_160 : decode cX6_prepare 160 = .ok (.return_, 1) := by decide +kernel
theorem dX6_isPossible_0 : decode cX6_isPossible 0 = .ok (.aload_n 0, 1) := by decide +kernel
theorem dX6_isPossible_1 : decode cX6_isPossible 1 = .ok (.getfield 32, 3) := by decide +kernel
theorem dX6_isPossible_4 : decode cX6_isPossible 4 = .ok (.invokestatic 57, 3) := by decide +kernel
theorem dX6_isPossible_7 : decode cX6_isPossible 7 = .ok (.aload_n 0, 1) := by decide +kernel
theorem dX6_isPossible_8 : decode cX6_isPossible 8 = .ok (.getfield 44, 3) := by decide +kernel
theorem dX6_isPossible_11 : decode cX6_isPossible 11 = .ok (.if_icmp .lt 7, 3) := by decide +kernel
theorem dX6_isPossible_14 : decode cX6_isPossible 14 = .ok (.iconst 1, 1) := by decide +kernel
theorem dX6_isPossible_15 : decode cX6_isPossible 15 = .ok (.goto 4, 3) := by decide +kernel
theorem dX6_isPossible_18 : decode cX6_isPossible 18 = .ok (.iconst 0, 1) := by decide +kernel
theorem dX6_isPossible_19 : decode cX6_isPossible 19 = .ok (.ireturn, 1) := by decide +kernel
theorem dX6_leastOverWays_0 : decode cX6_leastOverWays 0 = .ok (.aload_n 0, 1) := by decide +kernel
theorem dX6_leastOverWays_1 : decode cX6_leastOverWays 1 = .ok (.ldc 63, 2) := by decide +kernel
theorem dX6_leastOverWays_3 : decode cX6_leastOverWays 3 = .ok (.putfield 64, 3) := by decide +kernel
theorem dX6_leastOverWays_6 : decode cX6_leastOverWays 6 = .ok (.aload_n 0, 1) := by decide +kernel
theorem dX6_leastOverWays_7 : decode cX6_leastOverWays 7 = .ok (.aload_n 1, 1) := by decide +kernel
theorem dX6_leastOverWays_8 : decode cX6_leastOverWays 8 = .ok (.iconst 0, 1) := by decide +kernel
theorem dX6_leastOverWays_9 : decode cX6_leastOverWays 9 = .ok (.aload_n 0, 1) := by decide +kernel
theorem dX6_leastOverWays_10 : decode cX6_leastOverWays 10 = .ok (.getfield 32, 3) := by decide +kernel
theorem dX6_leastOverWays_13 : decode cX6_leastOverWays 13 = .ok (.invokevirtual 67, 3) := by decide +kernel
theorem dX6_leastOverWays_16 : decode cX6_leastOverWays 16 = .ok (.aload_n 0, 1) := by decide +kernel
theorem dX6_leastOverWays_17 : decode cX6_leastOverWays 17 = .ok (.getfield 64, 3) := by decide +kernel
theorem dX6_leastOverWays_20 : decode cX6_leastOverWays 20 = .ok (.ireturn, 1) := by decide +kernel
theorem dX6_tryTakers_0 : decode cX6_tryTakers 0 = .ok (.iload_n 2, 1) := by decide +kernel
theorem dX6_tryTakers_1 : decode cX6_tryTakers 1 = .ok (.aload_n 0, 1) := by decide +kernel
theorem dX6_tryTakers_2 : decode cX6_tryTakers 2 = .ok (.getfield 44, 3) := by decide +kernel
theorem dX6_tryTakers_5 : decode cX6_tryTakers 5 = .ok (.if_icmp .lt 40, 3) := by decide +kernel
theorem dX6_tryTakers_8 : decode cX6_tryTakers 8 = .ok (.aload_n 0, 1) := by decide +kernel
theorem dX6_tryTakers_9 : decode cX6_tryTakers 9 = .ok (.aload_n 1, 1) := by decide +kernel
theorem dX6_tryTakers_10 : decode cX6_tryTakers 10 = .ok (.invokevirtual 71, 3) := by decide +kernel
theorem dX6_tryTakers_13 : decode cX6_tryTakers 13 = .ok (.istore 4, 2) := by decide +kernel
theorem dX6_tryTakers_15 : decode cX6_tryTakers 15 = .ok (.iload 4, 2) := by decide +kernel
theorem dX6_tryTakers_17 : decode cX6_tryTakers 17 = .ok (.aload_n 0, 1) := by decide +kernel
theorem dX6_tryTakers_18 : decode cX6_tryTakers 18 = .ok (.getfield 64, 3) := by decide +kernel
theorem dX6_tryTakers_21 : decode cX6_tryTakers 21 = .ok (.if_icmp .ge 23, 3) := by decide +kernel
theorem dX6_tryTakers_24 : decode cX6_tryTakers 24 = .ok (.aload_n 0, 1) := by decide +kernel
theorem dX6_tryTakers_25 : decode cX6_tryTakers 25 = .ok (.iload 4, 2) := by decide +kernel
theorem dX6_tryTakers_27 : decode cX6_tryTakers 27 = .ok (.putfield 64, 3) := by decide +kernel
theorem dX6_tryTakers_30 : decode cX6_tryTakers 30 = .ok (.aload_n 0, 1) := by decide +kernel
theorem dX6_tryTakers_31 : decode cX6_tryTakers 31 = .ok (.getfield 23, 3) := by decide +kernel
theorem dX6_tryTakers_34 : decode cX6_tryTakers 34 = .ok (.iconst 0, 1) := by decide +kernel
theorem dX6_tryTakers_35 : decode cX6_tryTakers 35 = .ok (.aload_n 0, 1) := by decide +kernel
theorem dX6_tryTakers_36 : decode cX6_tryTakers 36 = .ok (.getfield 26, 3) := by decide +kernel
theorem dX6_tryTakers_39 : decode cX6_tryTakers 39 = .ok (.iconst 0, 1) := by decide +kernel
theorem dX6_tryTakers_40 : decode cX6_tryTakers 40 = .ok (.iconst 4, 1) := by decide +kernel
theorem dX6_tryTakers_41 : decode cX6_tryTakers 41 = .ok (.invokestatic 75, 3) := by decide +kernel
theorem dX6_tryTakers_44 : decode cX6_tryTakers 44 = .ok (.return_, 1) := by decide +kernel
theorem dX6_tryTakers_45 : decode cX6_tryTakers 45 = .ok (.iconst 0, 1) := by decide +kernel
theorem dX6_tryTakers_46 : decode cX6_tryTakers 46 = .ok (.istore 4, 2) := by decide +kernel
theorem dX6_tryTakers_48 : decode cX6_tryTakers 48 = .ok (.iload 4, 2) := by decide +kernel
theorem dX6_tryTakers_50 : decode cX6_tryTakers 50 = .ok (.aload_n 1, 1) := by decide +kernel
theorem dX6_tryTakers_51 : decode cX6_tryTakers 51 = .ok (.getfield 36, 3) := by decide +kernel
theorem dX6_tryTakers_54 : decode cX6_tryTakers 54 = .ok (.if_icmp .ge 86, 3) := by decide +kernel
theorem dX6_tryTakers_57 : decode cX6_tryTakers 57 = .ok (.iload_n 3, 1) := by decide +kernel
theorem dX6_tryTakers_58 : decode cX6_tryTakers 58 = .ok (.iload 4, 2) := by decide +kernel
theorem dX6_tryTakers_60 : decode cX6_tryTakers 60 = .ok (.ishr, 1) := by decide +kernel
theorem dX6_tryTakers_61 : decode cX6_tryTakers 61 = .ok (.iconst 1, 1) := by decide +kernel
theorem dX6_tryTakers_62 : decode cX6_tryTakers 62 = .ok (.iand, 1) := by decide +kernel
theorem dX6_tryTakers_63 : decode cX6_tryTakers 63 = .ok (.ifCond .eq 71, 3) := by decide +kernel
theorem dX6_tryTakers_66 : decode cX6_tryTakers 66 = .ok (.aload_n 0, 1) := by decide +kernel
theorem dX6_tryTakers_67 : decode cX6_tryTakers 67 = .ok (.getfield 23, 3) := by decide +kernel
theorem dX6_tryTakers_70 : decode cX6_tryTakers 70 = .ok (.iload_n 2, 1) := by decide +kernel
theorem dX6_tryTakers_71 : decode cX6_tryTakers 71 = .ok (.iload 4, 2) := by decide +kernel
theorem dX6_tryTakers_73 : decode cX6_tryTakers 73 = .ok (.iastore, 1) := by decide +kernel
theorem dX6_tryTakers_74 : decode cX6_tryTakers 74 = .ok (.aload_n 0, 1) := by decide +kernel
theorem dX6_tryTakers_75 : decode cX6_tryTakers 75 = .ok (.getfield 11, 3) := by decide +kernel
theorem dX6_tryTakers_78 : decode cX6_tryTakers 78 = .ok (.iload 4, 2) := by decide +kernel
theorem dX6_tryTakers_80 : decode cX6_tryTakers 80 = .ok (.aaload, 1) := by decide +kernel
theorem dX6_tryTakers_81 : decode cX6_tryTakers 81 = .ok (.aload_n 0, 1) := by decide +kernel
theorem dX6_tryTakers_82 : decode cX6_tryTakers 82 = .ok (.getfield 16, 3) := by decide +kernel
theorem dX6_tryTakers_85 : decode cX6_tryTakers 85 = .ok (.iload_n 2, 1) := by decide +kernel
theorem dX6_tryTakers_86 : decode cX6_tryTakers 86 = .ok (.iaload, 1) := by decide +kernel
theorem dX6_tryTakers_87 : decode cX6_tryTakers 87 = .ok (.dup2, 1) := by decide +kernel
theorem dX6_tryTakers_88 : decode cX6_tryTakers 88 = .ok (.iaload, 1) := by decide +kernel
theorem dX6_tryTakers_89 : decode cX6_tryTakers 89 = .ok (.aload_n 0, 1) := by decide +kernel
theorem dX6_tryTakers_90 : decode cX6_tryTakers 90 = .ok (.getfield 20, 3) := by decide +kernel
theorem dX6_tryTakers_93 : decode cX6_tryTakers 93 = .ok (.iload_n 2, 1) := by decide +kernel
theorem dX6_tryTakers_94 : decode cX6_tryTakers 94 = .ok (.iaload, 1) := by decide +kernel
theorem dX6_tryTakers_95 : decode cX6_tryTakers 95 = .ok (.iadd, 1) := by decide +kernel
theorem dX6_tryTakers_96 : decode cX6_tryTakers 96 = .ok (.iastore, 1) := by decide +kernel
theorem dX6_tryTakers_97 : decode cX6_tryTakers 97 = .ok (.aload_n 0, 1) := by decide +kernel
theorem dX6_tryTakers_98 : decode cX6_tryTakers 98 = .ok (.aload_n 1, 1) := by decide +kernel
theorem dX6_tryTakers_99 : decode cX6_tryTakers 99 = .ok (.iload_n 2, 1) := by decide +kernel
theorem dX6_tryTakers_100 : decode cX6_tryTakers 100 = .ok (.iconst 1, 1) := by decide +kernel
theorem dX6_tryTakers_101 : decode cX6_tryTakers 101 = .ok (.iadd, 1) := by decide +kernel
theorem dX6_tryTakers_102 : decode cX6_tryTakers 102 = .ok (.iload_n 3, 1) := by decide +kernel
theorem dX6_tryTakers_103 : decode cX6_tryTakers 103 = .ok (.iconst 1, 1) := by decide +kernel
theorem dX6_tryTakers_104 : decode cX6_tryTakers 104 = .ok (.iload 4, 2) := by decide +kernel
theorem dX6_tryTakers_106 : decode cX6_tryTakers 106 = .ok (.ishl, 1) := by decide +kernel
theorem dX6_tryTakers_107 : decode cX6_tryTakers 107 = .ok (.ixor, 1) := by decide +kernel
theorem dX6_tryTakers_108 : decode cX6_tryTakers 108 = .ok (.invokevirtual 67, 3) := by decide +kernel
theorem dX6_tryTakers_111 : decode cX6_tryTakers 111 = .ok (.aload_n 0, 1) := by decide +kernel
theorem dX6_tryTakers_112 : decode cX6_tryTakers 112 = .ok (.getfield 11, 3) := by decide +kernel
theorem dX6_tryTakers_115 : decode cX6_tryTakers 115 = .ok (.iload 4, 2) := by decide +kernel
theorem dX6_tryTakers_117 : decode cX6_tryTakers 117 = .ok (.aaload, 1) := by decide +kernel
theorem dX6_tryTakers_118 : decode cX6_tryTakers 118 = .ok (.aload_n 0, 1) := by decide +kernel
theorem dX6_tryTakers_119 : decode cX6_tryTakers 119 = .ok (.getfield 16, 3) := by decide +kernel
theorem dX6_tryTakers_122 : decode cX6_tryTakers 122 = .ok (.iload_n 2, 1) := by decide +kernel
theorem dX6_tryTakers_123 : decode cX6_tryTakers 123 = .ok (.iaload, 1) := by decide +kernel
theorem dX6_tryTakers_124 : decode cX6_tryTakers 124 = .ok (.dup2, 1) := by decide +kernel
theorem dX6_tryTakers_125 : decode cX6_tryTakers 125 = .ok (.iaload, 1) := by decide +kernel
theorem dX6_tryTakers_126 : decode cX6_tryTakers 126 = .ok (.aload_n 0, 1) := by decide +kernel
theorem dX6_tryTakers_127 : decode cX6_tryTakers 127 = .ok (.getfield 20, 3) := by decide +kernel
theorem dX6_tryTakers_130 : decode cX6_tryTakers 130 = .ok (.iload_n 2, 1) := by decide +kernel
theorem dX6_tryTakers_131 : decode cX6_tryTakers 131 = .ok (.iaload, 1) := by decide +kernel
theorem dX6_tryTakers_132 : decode cX6_tryTakers 132 = .ok (.isub, 1) := by decide +kernel
theorem dX6_tryTakers_133 : decode cX6_tryTakers 133 = .ok (.iastore, 1) := by decide +kernel
theorem dX6_tryTakers_134 : decode cX6_tryTakers 134 = .ok (.iinc 4 1, 3) := by decide +kernel
theorem dX6_tryTakers_137 : decode cX6_tryTakers 137 = .ok (.goto (-89), 3) := by decide +kernel
theorem dX6_tryTakers_140 : decode cX6_tryTakers 140 = .ok (.return_, 1) := by decide +kernel
theorem dX6_sumOfMargins_0 : decode cX6_sumOfMargins 0 = .ok (.iconst 0, 1) := by decide +kernel
theorem dX6_sumOfMargins_1 : decode cX6_sumOfMargins 1 = .ok (.istore_n 2, 1) := by decide +kernel
theorem dX6_sumOfMargins_2 : decode cX6_sumOfMargins 2 = .ok (.iconst 0, 1) := by decide +kernel
theorem dX6_sumOfMargins_3 : decode cX6_sumOfMargins 3 = .ok (.istore_n 3, 1) := by decide +kernel
theorem dX6_sumOfMargins_4 : decode cX6_sumOfMargins 4 = .ok (.iload_n 3, 1) := by decide +kernel
theorem dX6_sumOfMargins_5 : decode cX6_sumOfMargins 5 = .ok (.aload_n 1, 1) := by decide +kernel
theorem dX6_sumOfMargins_6 : decode cX6_sumOfMargins 6 = .ok (.getfield 36, 3) := by decide +kernel
theorem dX6_sumOfMargins_9 : decode cX6_sumOfMargins 9 = .ok (.if_icmp .ge 61, 3) := by decide +kernel
theorem dX6_sumOfMargins_12 : decode cX6_sumOfMargins 12 = .ok (.aload_n 0, 1) := by decide +kernel
theorem dX6_sumOfMargins_13 : decode cX6_sumOfMargins 13 = .ok (.getfield 32, 3) := by decide +kernel
theorem dX6_sumOfMargins_16 : decode cX6_sumOfMargins 16 = .ok (.iload_n 3, 1) := by decide +kernel
theorem dX6_sumOfMargins_17 : decode cX6_sumOfMargins 17 = .ok (.ishr, 1) := by decide +kernel
theorem dX6_sumOfMargins_18 : decode cX6_sumOfMargins 18 = .ok (.iconst 1, 1) := by decide +kernel
theorem dX6_sumOfMargins_19 : decode cX6_sumOfMargins 19 = .ok (.iand, 1) := by decide +kernel
theorem dX6_sumOfMargins_20 : decode cX6_sumOfMargins 20 = .ok (.ifCond .eq 44, 3) := by decide +kernel
theorem dX6_sumOfMargins_23 : decode cX6_sumOfMargins 23 = .ok (.iconst 0, 1) := by decide +kernel
theorem dX6_sumOfMargins_24 : decode cX6_sumOfMargins 24 = .ok (.istore 4, 2) := by decide +kernel
theorem dX6_sumOfMargins_26 : decode cX6_sumOfMargins 26 = .ok (.iload 4, 2) := by decide +kernel
theorem dX6_sumOfMargins_28 : decode cX6_sumOfMargins 28 = .ok (.aload_n 1, 1) := by decide +kernel
theorem dX6_sumOfMargins_29 : decode cX6_sumOfMargins 29 = .ok (.getfield 47, 3) := by decide +kernel
theorem dX6_sumOfMargins_32 : decode cX6_sumOfMargins 32 = .ok (.if_icmp .ge 32, 3) := by decide +kernel
theorem dX6_sumOfMargins_35 : decode cX6_sumOfMargins 35 = .ok (.iload_n 2, 1) := by decide +kernel
theorem dX6_sumOfMargins_36 : decode cX6_sumOfMargins 36 = .ok (.aload_n 0, 1) := by decide +kernel
theorem dX6_sumOfMargins_37 : decode cX6_sumOfMargins 37 = .ok (.getfield 11, 3) := by decide +kernel
theorem dX6_sumOfMargins_40 : decode cX6_sumOfMargins 40 = .ok (.iload_n 3, 1) := by decide +kernel
theorem dX6_sumOfMargins_41 : decode cX6_sumOfMargins 41 = .ok (.aaload, 1) := by decide +kernel
theorem dX6_sumOfMargins_42 : decode cX6_sumOfMargins 42 = .ok (.iload 4, 2) := by decide +kernel
theorem dX6_sumOfMargins_44 : decode cX6_sumOfMargins 44 = .ok (.iaload, 1) := by decide +kernel
theorem dX6_sumOfMargins_45 : decode cX6_sumOfMargins 45 = .ok (.invokestatic 81, 3) := by decide +kernel
theorem dX6_sumOfMargins_48 : decode cX6_sumOfMargins 48 = .ok (.aload_n 1, 1) := by decide +kernel
theorem dX6_sumOfMargins_49 : decode cX6_sumOfMargins 49 = .ok (.getfield 86, 3) := by decide +kernel
theorem dX6_sumOfMargins_52 : decode cX6_sumOfMargins 52 = .ok (.iload 4, 2) := by decide +kernel
theorem dX6_sumOfMargins_54 : decode cX6_sumOfMargins 54 = .ok (.iaload, 1) := by decide +kernel
theorem dX6_sumOfMargins_55 : decode cX6_sumOfMargins 55 = .ok (.imul, 1) := by decide +kernel
theorem dX6_sumOfMargins_56 : decode cX6_sumOfMargins 56 = .ok (.iadd, 1) := by decide +kernel
theorem dX6_sumOfMargins_57 : decode cX6_sumOfMargins 57 = .ok (.istore_n 2, 1) := by decide +kernel
theorem dX6_sumOfMargins_58 : decode cX6_sumOfMargins 58 = .ok (.iinc 4 1, 3) := by decide +kernel
theorem dX6_sumOfMargins_61 : decode cX6_sumOfMargins 61 = .ok (.goto (-35), 3) := by decide +kernel
theorem dX6_sumOfMargins_64 : decode cX6_sumOfMargins 64 = .ok (.iinc 3 1, 3) := by decide +kernel
theorem dX6_sumOfMargins_67 : decode cX6_sumOfMargins 67 = .ok (.goto (-63), 3) := by decide +kernel
theorem dX6_sumOfMargins_70 : decode cX6_sumOfMargins 70 = .ok (.iload_n 2, 1) := by decide +kernel
theorem dX6_sumOfMargins_71 : decode cX6_sumOfMargins 71 = .ok (.ireturn, 1) := by decide +kernel
theorem dX6_leastOverSets_0 : decode cX6_leastOverSets 0 = .ok (.ldc 63, 2) := by decide +kernel
theorem dX6_leastOverSets_2 : decode cX6_leastOverSets 2 = .ok (.istore_n 2, 1) := by decide +kernel
theorem dX6_leastOverSets_3 : decode cX6_leastOverSets 3 = .ok (.iconst 0, 1) := by decide +kernel
theorem dX6_leastOverSets_4 : decode cX6_leastOverSets 4 = .ok (.istore_n 3, 1) := by decide +kernel
theorem dX6_leastOverSets_5 : decode cX6_leastOverSets 5 = .ok (.iload_n 3, 1) := by decide +kernel
theorem dX6_leastOverSets_6 : decode cX6_leastOverSets 6 = .ok (.iconst 1, 1) := by decide +kernel
theorem dX6_leastOverSets_7 : decode cX6_leastOverSets 7 = .ok (.aload_n 1, 1) := by decide +kernel
theorem dX6_leastOverSets_8 : decode cX6_leastOverSets 8 = .ok (.getfield 36, 3) := by decide +kernel
theorem dX6_leastOverSets_11 : decode cX6_leastOverSets 11 = .ok (.ishl, 1) := by decide +kernel
theorem dX6_leastOverSets_12 : decode cX6_leastOverSets 12 = .ok (.if_icmp .ge 87, 3) := by decide +kernel
theorem dX6_leastOverSets_15 : decode cX6_leastOverSets 15 = .ok (.iload_n 3, 1) := by decide +kernel
theorem dX6_leastOverSets_16 : decode cX6_leastOverSets 16 = .ok (.invokestatic 57, 3) := by decide +kernel
theorem dX6_leastOverSets_19 : decode cX6_leastOverSets 19 = .ok (.istore 4, 2) := by decide +kernel
theorem dX6_leastOverSets_21 : decode cX6_leastOverSets 21 = .ok (.iload_n 3, 1) := by decide +kernel
theorem dX6_leastOverSets_22 : decode cX6_leastOverSets 22 = .ok (.aload_n 0, 1) := by decide +kernel
theorem dX6_leastOverSets_23 : decode cX6_leastOverSets 23 = .ok (.getfield 32, 3) := by decide +kernel
theorem dX6_leastOverSets_26 : decode cX6_leastOverSets 26 = .ok (.iconst (-1), 1) := by decide +kernel
theorem dX6_leastOverSets_27 : decode cX6_leastOverSets 27 = .ok (.ixor, 1) := by decide +kernel
theorem dX6_leastOverSets_28 : decode cX6_leastOverSets 28 = .ok (.iand, 1) := by decide +kernel
theorem dX6_leastOverSets_29 : decode cX6_leastOverSets 29 = .ok (.ifCond .ne 64, 3) := by decide +kernel
theorem dX6_leastOverSets_32 : decode cX6_leastOverSets 32 = .ok (.iload 4, 2) := by decide +kernel
theorem dX6_leastOverSets_34 : decode cX6_leastOverSets 34 = .ok (.aload_n 0, 1) := by decide +kernel
theorem dX6_leastOverSets_35 : decode cX6_leastOverSets 35 = .ok (.getfield 44, 3) := by decide +kernel
theorem dX6_leastOverSets_38 : decode cX6_leastOverSets 38 = .ok (.if_icmp .le 6, 3) := by decide +kernel
theorem dX6_leastOverSets_41 : decode cX6_leastOverSets 41 = .ok (.goto 52, 3) := by decide +kernel
theorem dX6_leastOverSets_44 : decode cX6_leastOverSets 44 = .ok (.aload_n 0, 1) := by decide +kernel
theorem dX6_leastOverSets_45 : decode cX6_leastOverSets 45 = .ok (.getfield 29, 3) := by decide +kernel
theorem dX6_leastOverSets_48 : decode cX6_leastOverSets 48 = .ok (.iload_n 3, 1) := by decide +kernel
theorem dX6_leastOverSets_49 : decode cX6_leastOverSets 49 = .ok (.iload 4, 2) := by decide +kernel
theorem dX6_leastOverSets_51 : decode cX6_leastOverSets 51 = .ok (.ifCond .ne 11, 3) := by decide +kernel
theorem dX6_leastOverSets_54 : decode cX6_leastOverSets 54 = .ok (.aload_n 0, 1) := by decide +kernel
theorem dX6_leastOverSets_55 : decode cX6_leastOverSets 55 = .ok (.aload_n 1, 1) := by decide +kernel
theorem dX6_leastOverSets_56 : decode cX6_leastOverSets 56 = .ok (.invokevirtual 71, 3) := by decide +kernel
theorem dX6_leastOverSets_59 : decode cX6_leastOverSets 59 = .ok (.goto 13, 3) := by decide +kernel
theorem dX6_leastOverSets_62 : decode cX6_leastOverSets 62 = .ok (.aload_n 0, 1) := by decide +kernel
theorem dX6_leastOverSets_63 : decode cX6_leastOverSets 63 = .ok (.aload_n 1, 1) := by decide +kernel
theorem dX6_leastOverSets_64 : decode cX6_leastOverSets 64 = .ok (.iload_n 3, 1) := by decide +kernel
theorem dX6_leastOverSets_65 : decode cX6_leastOverSets 65 = .ok (.iload 4, 2) := by decide +kernel
theorem dX6_leastOverSets_67 : decode cX6_leastOverSets 67 = .ok (.iconst 1, 1) := by decide +kernel
theorem dX6_leastOverSets_68 : decode cX6_leastOverSets 68 = .ok (.isub, 1) := by decide +kernel
theorem dX6_leastOverSets_69 : decode cX6_leastOverSets 69 = .ok (.invokevirtual 89, 3) := by decide +kernel
theorem dX6_leastOverSets_72 : decode cX6_leastOverSets 72 = .ok (.iastore, 1) := by decide +kernel
theorem dX6_leastOverSets_73 : decode cX6_leastOverSets 73 = .ok (.iload 4, 2) := by decide +kernel
theorem dX6_leastOverSets_75 : decode cX6_leastOverSets 75 = .ok (.aload_n 0, 1) := by decide +kernel
theorem dX6_leastOverSets_76 : decode cX6_leastOverSets 76 = .ok (.getfield 44, 3) := by decide +kernel
theorem dX6_leastOverSets_79 : decode cX6_leastOverSets 79 = .ok (.if_icmp .ne 14, 3) := by decide +kernel
theorem dX6_leastOverSets_82 : decode cX6_leastOverSets 82 = .ok (.iload_n 2, 1) := by decide +kernel
theorem dX6_leastOverSets_83 : decode cX6_leastOverSets 83 = .ok (.aload_n 0, 1) := by decide +kernel
theorem dX6_leastOverSets_84 : decode cX6_leastOverSets 84 = .ok (.getfield 29, 3) := by decide +kernel
theorem dX6_leastOverSets_87 : decode cX6_leastOverSets 87 = .ok (.iload_n 3, 1) := by decide +kernel
theorem dX6_leastOverSets_88 : decode cX6_leastOverSets 88 = .ok (.iaload, 1) := by decide +kernel
theorem dX6_leastOverSets_89 : decode cX6_leastOverSets 89 = .ok (.invokestatic 93, 3) := by decide +kernel
theorem dX6_leastOverSets_92 : decode cX6_leastOverSets 92 = .ok (.istore_n 2, 1) := by decide +kernel
theorem dX6_leastOverSets_93 : decode cX6_leastOverSets 93 = .ok (.iinc 3 1, 3) := by decide +kernel
theorem dX6_leastOverSets_96 : decode cX6_leastOverSets 96 = .ok (.goto (-91), 3) := by decide +kernel
theorem dX6_leastOverSets_99 : decode cX6_leastOverSets 99 = .ok (.iload_n 2, 1) := by decide +kernel
theorem dX6_leastOverSets_100 : decode cX6_leastOverSets 100 = .ok (.ireturn, 1) := by decide +kernel
theorem dX6_leastWithLast_0 : decode cX6_leastWithLast 0 = .ok (.ldc 63, 2) := by decide +kernel
theorem dX6_leastWithLast_2 : decode cX6_leastWithLast 2 = .ok (.istore 4, 2) := by decide +kernel
theorem dX6_leastWithLast_4 : decode cX6_leastWithLast 4 = .ok (.iconst 0, 1) := by decide +kernel
theorem dX6_leastWithLast_5 : decode cX6_leastWithLast 5 = .ok (.istore 5, 2) := by decide +kernel
theorem dX6_leastWithLast_7 : decode cX6_leastWithLast 7 = .ok (.iload 5, 2) := by decide +kernel
theorem dX6_leastWithLast_9 : decode cX6_leastWithLast 9 = .ok (.aload_n 1, 1) := by decide +kernel
theorem dX6_leastWithLast_10 : decode cX6_leastWithLast 10 = .ok (.getfield 36, 3) := by decide +kernel
theorem dX6_leastWithLast_13 : decode cX6_leastWithLast 13 = .ok (.if_icmp .ge 91, 3) := by decide +kernel
theorem dX6_leastWithLast_16 : decode cX6_leastWithLast 16 = .ok (.iload_n 2, 1) := by decide +kernel
theorem dX6_leastWithLast_17 : decode cX6_leastWithLast 17 = .ok (.iload 5, 2) := by decide +kernel
theorem dX6_leastWithLast_19 : decode cX6_leastWithLast 19 = .ok (.ishr, 1) := by decide +kernel
theorem dX6_leastWithLast_20 : decode cX6_leastWithLast 20 = .ok (.iconst 1, 1) := by decide +kernel
theorem dX6_leastWithLast_21 : decode cX6_leastWithLast 21 = .ok (.iand, 1) := by decide +kernel
theorem dX6_leastWithLast_22 : decode cX6_leastWithLast 22 = .ok (.ifCond .eq 76, 3) := by decide +kernel
theorem dX6_leastWithLast_25 : decode cX6_leastWithLast 25 = .ok (.aload_n 0, 1) := by decide +kernel
theorem dX6_leastWithLast_26 : decode cX6_leastWithLast 26 = .ok (.getfield 11, 3) := by decide +kernel
theorem dX6_leastWithLast_29 : decode cX6_leastWithLast 29 = .ok (.iload 5, 2) := by decide +kernel
theorem dX6_leastWithLast_31 : decode cX6_leastWithLast 31 = .ok (.aaload, 1) := by decide +kernel
theorem dX6_leastWithLast_32 : decode cX6_leastWithLast 32 = .ok (.aload_n 0, 1) := by decide +kernel
theorem dX6_leastWithLast_33 : decode cX6_leastWithLast 33 = .ok (.getfield 16, 3) := by decide +kernel
theorem dX6_leastWithLast_36 : decode cX6_leastWithLast 36 = .ok (.iload_n 3, 1) := by decide +kernel
theorem dX6_leastWithLast_37 : decode cX6_leastWithLast 37 = .ok (.iaload, 1) := by decide +kernel
theorem dX6_leastWithLast_38 : decode cX6_leastWithLast 38 = .ok (.iaload, 1) := by decide +kernel
theorem dX6_leastWithLast_39 : decode cX6_leastWithLast 39 = .ok (.istore 6, 2) := by decide +kernel
theorem dX6_leastWithLast_41 : decode cX6_leastWithLast 41 = .ok (.iload 6, 2) := by decide +kernel
theorem dX6_leastWithLast_43 : decode cX6_leastWithLast 43 = .ok (.aload_n 0, 1) := by decide +kernel
theorem dX6_leastWithLast_44 : decode cX6_leastWithLast 44 = .ok (.getfield 20, 3) := by decide +kernel
theorem dX6_leastWithLast_47 : decode cX6_leastWithLast 47 = .ok (.iload_n 3, 1) := by decide +kernel
theorem dX6_leastWithLast_48 : decode cX6_leastWithLast 48 = .ok (.iaload, 1) := by decide +kernel
theorem dX6_leastWithLast_49 : decode cX6_leastWithLast 49 = .ok (.iadd, 1) := by decide +kernel
theorem dX6_leastWithLast_50 : decode cX6_leastWithLast 50 = .ok (.invokestatic 81, 3) := by decide +kernel
theorem dX6_leastWithLast_53 : decode cX6_leastWithLast 53 = .ok (.iload 6, 2) := by decide +kernel
theorem dX6_leastWithLast_55 : decode cX6_leastWithLast 55 = .ok (.invokestatic 81, 3) := by decide +kernel
theorem dX6_leastWithLast_58 : decode cX6_leastWithLast 58 = .ok (.isub, 1) := by decide +kernel
theorem dX6_leastWithLast_59 : decode cX6_leastWithLast 59 = .ok (.istore 7, 2) := by decide +kernel
theorem dX6_leastWithLast_61 : decode cX6_leastWithLast 61 = .ok (.aload_n 0, 1) := by decide +kernel
theorem dX6_leastWithLast_62 : decode cX6_leastWithLast 62 = .ok (.getfield 29, 3) := by decide +kernel
theorem dX6_leastWithLast_65 : decode cX6_leastWithLast 65 = .ok (.iload_n 2, 1) := by decide +kernel
theorem dX6_leastWithLast_66 : decode cX6_leastWithLast 66 = .ok (.iconst 1, 1) := by decide +kernel
theorem dX6_leastWithLast_67 : decode cX6_leastWithLast 67 = .ok (.iload 5, 2) := by decide +kernel
theorem dX6_leastWithLast_69 : decode cX6_leastWithLast 69 = .ok (.ishl, 1) := by decide +kernel
theorem dX6_leastWithLast_70 : decode cX6_leastWithLast 70 = .ok (.ixor, 1) := by decide +kernel
theorem dX6_leastWithLast_71 : decode cX6_leastWithLast 71 = .ok (.iaload, 1) := by decide +kernel
theorem dX6_leastWithLast_72 : decode cX6_leastWithLast 72 = .ok (.iload 7, 2) := by decide +kernel
theorem dX6_leastWithLast_74 : decode cX6_leastWithLast 74 = .ok (.aload_n 1, 1) := by decide +kernel
theorem dX6_leastWithLast_75 : decode cX6_leastWithLast 75 = .ok (.getfield 86, 3) := by decide +kernel
theorem dX6_leastWithLast_78 : decode cX6_leastWithLast 78 = .ok (.aload_n 0, 1) := by decide +kernel
theorem dX6_leastWithLast_79 : decode cX6_leastWithLast 79 = .ok (.getfield 16, 3) := by decide +kernel
theorem dX6_leastWithLast_82 : decode cX6_leastWithLast 82 = .ok (.iload_n 3, 1) := by decide +kernel
theorem dX6_leastWithLast_83 : decode cX6_leastWithLast 83 = .ok (.iaload, 1) := by decide +kernel
theorem dX6_leastWithLast_84 : decode cX6_leastWithLast 84 = .ok (.iaload, 1) := by decide +kernel
theorem dX6_leastWithLast_85 : decode cX6_leastWithLast 85 = .ok (.imul, 1) := by decide +kernel
theorem dX6_leastWithLast_86 : decode cX6_leastWithLast 86 = .ok (.iadd, 1) := by decide +kernel
theorem dX6_leastWithLast_87 : decode cX6_leastWithLast 87 = .ok (.istore 8, 2) := by decide +kernel
theorem dX6_leastWithLast_89 : decode cX6_leastWithLast 89 = .ok (.iload 4, 2) := by decide +kernel
theorem dX6_leastWithLast_91 : decode cX6_leastWithLast 91 = .ok (.iload 8, 2) := by decide +kernel
theorem dX6_leastWithLast_93 : decode cX6_leastWithLast 93 = .ok (.invokestatic 93, 3) := by decide +kernel
theorem dX6_leastWithLast_96 : decode cX6_leastWithLast 96 = .ok (.istore 4, 2) := by decide +kernel
theorem dX6_leastWithLast_98 : decode cX6_leastWithLast 98 = .ok (.iinc 5 1, 3) := by decide +kernel
theorem dX6_leastWithLast_101 : decode cX6_leastWithLast 101 = .ok (.goto (-94), 3) := by decide +kernel
theorem dX6_leastWithLast_104 : decode cX6_leastWithLast 104 = .ok (.iload 4, 2) := by decide +kernel
theorem dX6_leastWithLast_106 : decode cX6_leastWithLast 106 = .ok (.ireturn, 1) := by decide +kernel
theorem dX6_takerOn_0 : decode cX6_takerOn 0 = .ok (.iconst 0, 1) := by decide +kernel
theorem dX6_takerOn_1 : decode cX6_takerOn 1 = .ok (.istore_n 2, 1) := by decide +kernel
theorem dX6_takerOn_2 : decode cX6_takerOn 2 = .ok (.iload_n 2, 1) := by decide +kernel
theorem dX6_takerOn_3 : decode cX6_takerOn 3 = .ok (.aload_n 0, 1) := by decide +kernel
theorem dX6_takerOn_4 : decode cX6_takerOn 4 = .ok (.getfield 44, 3) := by decide +kernel
theorem dX6_takerOn_7 : decode cX6_takerOn 7 = .ok (.if_icmp .ge 26, 3) := by decide +kernel
theorem dX6_takerOn_10 : decode cX6_takerOn 10 = .ok (.aload_n 0, 1) := by decide +kernel
theorem dX6_takerOn_11 : decode cX6_takerOn 11 = .ok (.getfield 16, 3) := by decide +kernel
theorem dX6_takerOn_14 : decode cX6_takerOn 14 = .ok (.iload_n 2, 1) := by decide +kernel
theorem dX6_takerOn_15 : decode cX6_takerOn 15 = .ok (.iaload, 1) := by decide +kernel
theorem dX6_takerOn_16 : decode cX6_takerOn 16 = .ok (.iload_n 1, 1) := by decide +kernel
theorem dX6_takerOn_17 : decode cX6_takerOn 17 = .ok (.if_icmp .ne 10, 3) := by decide +kernel
theorem dX6_takerOn_20 : decode cX6_takerOn 20 = .ok (.aload_n 0, 1) := by decide +kernel
theorem dX6_takerOn_21 : decode cX6_takerOn 21 = .ok (.getfield 26, 3) := by decide +kernel
theorem dX6_takerOn_24 : decode cX6_takerOn 24 = .ok (.iload_n 2, 1) := by decide +kernel
theorem dX6_takerOn_25 : decode cX6_takerOn 25 = .ok (.iaload, 1) := by decide +kernel
theorem dX6_takerOn_26 : decode cX6_takerOn 26 = .ok (.ireturn, 1) := by decide +kernel
theorem dX6_takerOn_27 : decode cX6_takerOn 27 = .ok (.iinc 2 1, 3) := by decide +kernel
theorem dX6_takerOn_30 : decode cX6_takerOn 30 = .ok (.goto (-28), 3) := by decide +kernel
theorem dX6_takerOn_33 : decode cX6_takerOn 33 = .ok (.iconst (-1), 1) := by decide +kernel
theorem dX6_takerOn_34 : decode cX6_takerOn 34 = .ok (.ireturn, 1) := by decide +kernel
theorem dX7_init_0 : decode cX7_init 0 = .ok (.aload_n 0, 1) := by decide +kernel
theorem dX7_init_1 : decode cX7_init 1 = .ok (.invokespecial 1, 3) := by decide +kernel
theorem dX7_init_4 : decode cX7_init 4 = .ok (.aload_n 0, 1) := by decide +kernel
theorem dX7_init_5 : decode cX7_init 5 = .ok (.new 7, 3) := by decide +kernel
theorem dX7_init_8 : decode cX7_init 8 = .ok (.dup, 1) := by decide +kernel
theorem dX7_init_9 : decode cX7_init 9 = .ok (.invokespecial 9, 3) := by decide +kernel
theorem dX7_init_12 : decode cX7_init 12 = .ok (.putfield 10, 3) := by decide +kernel
theorem dX7_init_15 : decode cX7_init 15 = .ok (.aload_n 0, 1) := by decide +kernel
theorem dX7_init_16 : decode cX7_init 16 = .ok (.new 7, 3) := by decide +kernel
theorem dX7_init_19 : decode cX7_init 19 = .ok (.dup, 1) := by decide +kernel
theorem dX7_init_20 : decode cX7_init 20 = .ok (.invokespecial 9, 3) := by decide +kernel
theorem dX7_init_23 : decode cX7_init 23 = .ok (.putfield 16, 3) := by decide +kernel
theorem dX7_init_26 : decode cX7_init 26 = .ok (.aload_n 0, 1) := by decide +kernel
theorem dX7_init_27 : decode cX7_init 27 = .ok (.new 7, 3) := by decide +kernel
theorem dX7_init_30 : decode cX7_init 30 = .ok (.dup, 1) := by decide +kernel
theorem dX7_init_31 : decode cX7_init 31 = .ok (.invokespecial 9, 3) := by decide +kernel
theorem dX7_init_34 : decode cX7_init 34 = .ok (.putfield 19, 3) := by decide +kernel
theorem dX7_init_37 : decode cX7_init 37 = .ok (.aload_n 0, 1) := by decide +kernel
theorem dX7_init_38 : decode cX7_init 38 = .ok (.new 22, 3) := by decide +kernel
theorem dX7_init_41 : decode cX7_init 41 = .ok (.dup, 1) := by decide +kernel
theorem dX7_init_42 : decode cX7_init 42 = .ok (.invokespecial 24, 3) := by decide +kernel
theorem dX7_init_45 : decode cX7_init 45 = .ok (.putfield 25, 3) := by decide +kernel
theorem dX7_init_48 : decode cX7_init 48 = .ok (.aload_n 0, 1) := by decide +kernel
theorem dX7_init_49 : decode cX7_init 49 = .ok (.new 29, 3) := by decide +kernel
theorem dX7_init_52 : decode cX7_init 52 = .ok (.dup, 1) := by decide +kernel
theorem dX7_init_53 : decode cX7_init 53 = .ok (.invokespecial 31, 3) := by decide +kernel
theorem dX7_init_56 : decode cX7_init 56 = .ok (.putfield 32, 3) := by decide +kernel
theorem dX7_init_59 : decode cX7_init 59 = .ok (.aload_n 0, 1) := by decide +kernel
theorem dX7_init_60 : decode cX7_init 60 = .ok (.new 36, 3) := by decide +kernel
theorem dX7_init_63 : decode cX7_init 63 = .ok (.dup, 1) := by decide +kernel
theorem dX7_init_64 : decode cX7_init 64 = .ok (.invokespecial 38, 3) := by decide +kernel
theorem dX7_init_67 : decode cX7_init 67 = .ok (.putfield 39, 3) := by decide +kernel
theorem dX7_init_70 : decode cX7_init 70 = .ok (.aload_n 0, 1) := by decide +kernel
theorem dX7_init_71 : decode cX7_init 71 = .ok (.new 43, 3) := by decide +kernel
theorem dX7_init_74 : decode cX7_init 74 = .ok (.dup, 1) := by decide +kernel
theorem dX7_init_75 : decode cX7_init 75 = .ok (.invokespecial 45, 3) := by decide +kernel
theorem dX7_init_78 : decode cX7_init 78 = .ok (.putfield 46, 3) := by decide +kernel
theorem dX7_init_81 : decode cX7_init 81 = .ok (.aload_n 0, 1) := by decide +kernel
theorem dX7_init_82 : decode cX7_init 82 = .ok (.new 50, 3) := by decide +kernel
theorem dX7_init_85 : decode cX7_init 85 = .ok (.dup, 1) := by decide +kernel
theorem dX7_init_86 : decode cX7_init 86 = .ok (.invokespecial 52, 3) := by decide +kernel
theorem dX7_init_89 : decode cX7_init 89 = .ok (.putfield 53, 3) := by decide +kernel
theorem dX7_init_92 : decode cX7_init 92 = .ok (.aload_n 0, 1) := by decide +kernel
theorem dX7_init_93 : decode cX7_init 93 = .ok (.new 50, 3) := by decide +kernel
theorem dX7_init_96 : decode cX7_init 96 = .ok (.dup, 1) := by decide +kernel
theorem dX7_init_97 : decode cX7_init 97 = .ok (.invokespecial 52, 3) := by decide +kernel
theorem dX7_init_100 : decode cX7_init 100 = .ok (.putfield 57, 3) := by decide +kernel
theorem dX7_init_103 : decode cX7_init 103 = .ok (.aload_n 0, 1) := by decide +kernel
theorem dX7_init_104 : decode cX7_init 104 = .ok (.iconst (-1), 1) := by decide +kernel
theorem dX7_init_105 : decode cX7_init 105 = .ok (.putfield 60, 3) := by decide +kernel
theorem dX7_init_108 : decode cX7_init 108 = .ok (.aload_n 0, 1) := by decide +kernel
theorem dX7_init_109 : decode cX7_init 109 = .ok (.iconst (-1), 1) := by decide +kernel
theorem dX7_init_110 : decode cX7_init 110 = .ok (.putfield 64, 3) := by decide +kernel
theorem dX7_init_113 : decode cX7_init 113 = .ok (.return_, 1) := by decide +kernel
theorem dX7_addHorizon_0 : decode cX7_addHorizon 0 = .ok (.aload_n 0, 1) := by decide +kernel
theorem dX7_addHorizon_1 : decode cX7_addHorizon 1 = .ok (.iconst 0, 1) := by decide +kernel
theorem dX7_addHorizon_2 : decode cX7_addHorizon 2 = .ok (.iload_n 1, 1) := by decide +kernel
theorem dX7_addHorizon_3 : decode cX7_addHorizon 3 = .ok (.iload_n 2, 1) := by decide +kernel
theorem dX7_addHorizon_4 : decode cX7_addHorizon 4 = .ok (.iconst 0, 1) := by decide +kernel
theorem dX7_addHorizon_5 : decode cX7_addHorizon 5 = .ok (.iconst 0, 1) := by decide +kernel
theorem dX7_addHorizon_6 : decode cX7_addHorizon 6 = .ok (.iconst 0, 1) := by decide +kernel
theorem dX7_addHorizon_7 : decode cX7_addHorizon 7 = .ok (.invokevirtual 69, 3) := by decide +kernel
theorem dX7_addHorizon_10 : decode cX7_addHorizon 10 = .ok (.ireturn, 1) := by decide +kernel
theorem dX7_addTrader_0 : decode cX7_addTrader 0 = .ok (.aload_n 0, 1) := by decide +kernel
theorem dX7_addTrader_1 : decode cX7_addTrader 1 = .ok (.iconst 1, 1) := by decide +kernel
theorem dX7_addTrader_2 : decode cX7_addTrader 2 = .ok (.iload_n 1, 1) := by decide +kernel
theorem dX7_addTrader_3 : decode cX7_addTrader 3 = .ok (.iconst 0, 1) := by decide +kernel
theorem dX7_addTrader_4 : decode cX7_addTrader 4 = .ok (.iconst 0, 1) := by decide +kernel
theorem dX7_addTrader_5 : decode cX7_addTrader 5 = .ok (.iconst 0, 1) := by decide +kernel
theorem dX7_addTrader_6 : decode cX7_addTrader 6 = .ok (.iconst 0, 1) := by decide +kernel
theorem dX7_addTrader_7 : decode cX7_addTrader 7 = .ok (.invokevirtual 69, 3) := by decide +kernel
theorem dX7_addTrader_10 : decode cX7_addTrader 10 = .ok (.ireturn, 1) := by decide +kernel
theorem dX7_trade_0 : decode cX7_trade 0 = .ok (.aload_n 0, 1) := by decide +kernel
theorem dX7_trade_1 : decode cX7_trade 1 = .ok (.iconst 2, 1) := by decide +kernel
theorem dX7_trade_2 : decode cX7_trade 2 = .ok (.iload_n 1, 1) := by decide +kernel
theorem dX7_trade_3 : decode cX7_trade 3 = .ok (.iload_n 2, 1) := by decide +kernel
theorem dX7_trade_4 : decode cX7_trade 4 = .ok (.iload_n 3, 1) := by decide +kernel
theorem dX7_trade_5 : decode cX7_trade 5 = .ok (.iload 4, 2) := by decide +kernel
theorem dX7_trade_7 : decode cX7_trade 7 = .ok (.iload 5, 2) := by decide +kernel
theorem dX7_trade_9 : decode cX7_trade 9 = .ok (.invokevirtual 69, 3) := by decide +kernel
theorem dX7_trade_12 : decode cX7_trade 12 = .ok (.ireturn, 1) := by decide +kernel
theorem dX7_setQuote_0 : decode cX7_setQuote 0 = .ok (.aload_n 0, 1) := by decide +kernel
theorem dX7_setQuote_1 : decode cX7_setQuote 1 = .ok (.iconst 3, 1) := by decide +kernel
theorem dX7_setQuote_2 : decode cX7_setQuote 2 = .ok (.iload_n 1, 1) := by decide +kernel
theorem dX7_setQuote_3 : decode cX7_setQuote 3 = .ok (.iload_n 2, 1) := by decide +kernel
theorem dX7_setQuote_4 : decode cX7_setQuote 4 = .ok (.iconst 0, 1) := by decide +kernel
theorem dX7_setQuote_5 : decode cX7_setQuote 5 = .ok (.iconst 0, 1) := by decide +kernel
theorem dX7_setQuote_6 : decode cX7_setQuote 6 = .ok (.iconst 0, 1) := by decide +kernel
theorem dX7_setQuote_7 : decode cX7_setQuote 7 = .ok (.invokevirtual 69, 3) := by decide +kernel
theorem dX7_setQuote_10 : decode cX7_setQuote 10 = .ok (.ireturn, 1) := by decide +kernel
theorem dX7_dawn_0 : decode cX7_dawn 0 = .ok (.aload_n 0, 1) := by decide +kernel
theorem dX7_dawn_1 : decode cX7_dawn 1 = .ok (.iconst 4, 1) := by decide +kernel
theorem dX7_dawn_2 : decode cX7_dawn 2 = .ok (.iconst 0, 1) := by decide +kernel
theorem dX7_dawn_3 : decode cX7_dawn 3 = .ok (.iconst 0, 1) := by decide +kernel
theorem dX7_dawn_4 : decode cX7_dawn 4 = .ok (.iconst 0, 1) := by decide +kernel
theorem dX7_dawn_5 : decode cX7_dawn 5 = .ok (.iconst 0, 1) := by decide +kernel
theorem dX7_dawn_6 : decode cX7_dawn 6 = .ok (.iconst 0, 1) := by decide +kernel
theorem dX7_dawn_7 : decode cX7_dawn 7 = .ok (.invokevirtual 69, 3) := by decide +kernel
theorem dX7_dawn_10 : decode cX7_dawn 10 = .ok (.ireturn, 1) := by decide +kernel
theorem dX7_deposit_0 : decode cX7_deposit 0 = .ok (.aload_n 0, 1) := by decide +kernel
theorem dX7_deposit_1 : decode cX7_deposit 1 = .ok (.iconst 5, 1) := by decide +kernel
theorem dX7_deposit_2 : decode cX7_deposit 2 = .ok (.iload_n 1, 1) := by decide +kernel
theorem dX7_deposit_3 : decode cX7_deposit 3 = .ok (.iload_n 2, 1) := by decide +kernel
theorem dX7_deposit_4 : decode cX7_deposit 4 = .ok (.iconst 0, 1) := by decide +kernel
theorem dX7_deposit_5 : decode cX7_deposit 5 = .ok (.iconst 0, 1) := by decide +kernel
theorem dX7_deposit_6 : decode cX7_deposit 6 = .ok (.iconst 0, 1) := by decide +kernel
theorem dX7_deposit_7 : decode cX7_deposit 7 = .ok (.invokevirtual 69, 3) := by decide +kernel
theorem dX7_deposit_10 : decode cX7_deposit 10 = .ok (.ireturn, 1) := by decide +kernel
theorem dX7_withdraw_0 : decode cX7_withdraw 0 = .ok (.aload_n 0, 1) := by decide +kernel
theorem dX7_withdraw_1 : decode cX7_withdraw 1 = .ok (.bipush 6, 2) := by decide +kernel
theorem dX7_withdraw_3 : decode cX7_withdraw 3 = .ok (.iload_n 1, 1) := by decide +kernel
theorem dX7_withdraw_4 : decode cX7_withdraw 4 = .ok (.iload_n 2, 1) := by decide +kernel
theorem dX7_withdraw_5 : decode cX7_withdraw 5 = .ok (.iconst 0, 1) := by decide +kernel
theorem dX7_withdraw_6 : decode cX7_withdraw 6 = .ok (.iconst 0, 1) := by decide +kernel
theorem dX7_withdraw_7 : decode cX7_withdraw 7 = .ok (.iconst 0, 1) := by decide +kernel
theorem dX7_withdraw_8 : decode cX7_withdraw 8 = .ok (.invokevirtual 69, 3) := by decide +kernel
theorem dX7_withdraw_11 : decode cX7_withdraw 11 = .ok (.ireturn, 1) := by decide +kernel
theorem dX7_contribute_0 : decode cX7_contribute 0 = .ok (.aload_n 0, 1) := by decide +kernel
theorem dX7_contribute_1 : decode cX7_contribute 1 = .ok (.bipush 7, 2) := by decide +kernel
theorem dX7_contribute_3 : decode cX7_contribute 3 = .ok (.iload_n 1, 1) := by decide +kernel
theorem dX7_contribute_4 : decode cX7_contribute 4 = .ok (.iload_n 2, 1) := by decide +kernel
theorem dX7_contribute_5 : decode cX7_contribute 5 = .ok (.iconst 0, 1) := by decide +kernel
theorem dX7_contribute_6 : decode cX7_contribute 6 = .ok (.iconst 0, 1) := by decide +kernel
theorem dX7_contribute_7 : decode cX7_contribute 7 = .ok (.iconst 0, 1) := by decide +kernel
theorem dX7_contribute_8 : decode cX7_contribute 8 = .ok (.invokevirtual 69, 3) := by decide +kernel
theorem dX7_contribute_11 : decode cX7_contribute 11 = .ok (.ireturn, 1) := by decide +kernel
theorem dX7_horizonCount_0 : decode cX7_horizonCount 0 = .ok (.aload_n 0, 1) := by decide +kernel
theorem dX7_horizonCount_1 : decode cX7_horizonCount 1 = .ok (.getfield 10, 3) := by decide +kernel
theorem dX7_horizonCount_4 : decode cX7_horizonCount 4 = .ok (.getfield 73, 3) := by decide +kernel
theorem dX7_horizonCount_7 : decode cX7_horizonCount 7 = .ok (.ireturn, 1) := by decide +kernel
theorem dX7_priceOf_0 : decode cX7_priceOf 0 = .ok (.iload_n 1, 1) := by decide +kernel
theorem dX7_priceOf_1 : decode cX7_priceOf 1 = .ok (.aload_n 0, 1) := by decide +kernel
theorem dX7_priceOf_2 : decode cX7_priceOf 2 = .ok (.getfield 10, 3) := by decide +kernel
theorem dX7_priceOf_5 : decode cX7_priceOf 5 = .ok (.getfield 73, 3) := by decide +kernel
theorem dX7_priceOf_8 : decode cX7_priceOf 8 = .ok (.invokestatic 76, 3) := by decide +kernel
theorem dX7_priceOf_11 : decode cX7_priceOf 11 = .ok (.aload_n 0, 1) := by decide +kernel
theorem dX7_priceOf_12 : decode cX7_priceOf 12 = .ok (.getfield 10, 3) := by decide +kernel
theorem dX7_priceOf_15 : decode cX7_priceOf 15 = .ok (.getfield 80, 3) := by decide +kernel
theorem dX7_priceOf_18 : decode cX7_priceOf 18 = .ok (.iload_n 1, 1) := by decide +kernel
theorem dX7_priceOf_19 : decode cX7_priceOf 19 = .ok (.iaload, 1) := by decide +kernel
theorem dX7_priceOf_20 : decode cX7_priceOf 20 = .ok (.ireturn, 1) := by decide +kernel
theorem dX7_quoteOf_0 : decode cX7_quoteOf 0 = .ok (.iload_n 1, 1) := by decide +kernel
theorem dX7_quoteOf_1 : decode cX7_quoteOf 1 = .ok (.aload_n 0, 1) := by decide +kernel
theorem dX7_quoteOf_2 : decode cX7_quoteOf 2 = .ok (.getfield 10, 3) := by decide +kernel
theorem dX7_quoteOf_5 : decode cX7_quoteOf 5 = .ok (.getfield 73, 3) := by decide +kernel
theorem dX7_quoteOf_8 : decode cX7_quoteOf 8 = .ok (.invokestatic 76, 3) := by decide +kernel
theorem dX7_quoteOf_11 : decode cX7_quoteOf 11 = .ok (.aload_n 0, 1) := by decide +kernel
theorem dX7_quoteOf_12 : decode cX7_quoteOf 12 = .ok (.getfield 10, 3) := by decide +kernel
theorem dX7_quoteOf_15 : decode cX7_quoteOf 15 = .ok (.getfield 84, 3) := by decide +kernel
theorem dX7_quoteOf_18 : decode cX7_quoteOf 18 = .ok (.iload_n 1, 1) := by decide +kernel
theorem dX7_quoteOf_19 : decode cX7_quoteOf 19 = .ok (.iaload, 1) := by decide +kernel
theorem dX7_quoteOf_20 : decode cX7_quoteOf 20 = .ok (.ireturn, 1) := by decide +kernel
theorem dX7_rangeOf_0 : decode cX7_rangeOf 0 = .ok (.iload_n 1, 1) := by decide +kernel
theorem dX7_rangeOf_1 : decode cX7_rangeOf 1 = .ok (.aload_n 0, 1) := by decide +kernel
theorem dX7_rangeOf_2 : decode cX7_rangeOf 2 = .ok (.getfield 10, 3) := by decide +kernel
theorem dX7_rangeOf_5 : decode cX7_rangeOf 5 = .ok (.getfield 73, 3) := by decide +kernel
theorem dX7_rangeOf_8 : decode cX7_rangeOf 8 = .ok (.invokestatic 76, 3) := by decide +kernel
theorem dX7_rangeOf_11 : decode cX7_rangeOf 11 = .ok (.aload_n 0, 1) := by decide +kernel
theorem dX7_rangeOf_12 : decode cX7_rangeOf 12 = .ok (.getfield 10, 3) := by decide +kernel
theorem dX7_rangeOf_15 : decode cX7_rangeOf 15 = .ok (.getfield 87, 3) := by decide +kernel
theorem dX7_rangeOf_18 : decode cX7_rangeOf 18 = .ok (.iload_n 1, 1) := by decide +kernel
theorem dX7_rangeOf_19 : decode cX7_rangeOf 19 = .ok (.iaload, 1) := by decide +kernel
theorem dX7_rangeOf_20 : decode cX7_rangeOf 20 = .ok (.ireturn, 1) := by decide +kernel
theorem dX7_traderCount_0 : decode cX7_traderCount 0 = .ok (.aload_n 0, 1) := by decide +kernel
theorem dX7_traderCount_1 : decode cX7_traderCount 1 = .ok (.getfield 10, 3) := by decide +kernel
theorem dX7_traderCount_4 : decode cX7_traderCount 4 = .ok (.getfield 90, 3) := by decide +kernel
theorem dX7_traderCount_7 : decode cX7_traderCount 7 = .ok (.ireturn, 1) := by decide +kernel
theorem dX7_moneyOf_0 : decode cX7_moneyOf 0 = .ok (.iload_n 1, 1) := by decide +kernel
theorem dX7_moneyOf_1 : decode cX7_moneyOf 1 = .ok (.aload_n 0, 1) := by decide +kernel
theorem dX7_moneyOf_2 : decode cX7_moneyOf 2 = .ok (.getfield 10, 3) := by decide +kernel
theorem dX7_moneyOf_5 : decode cX7_moneyOf 5 = .ok (.getfield 90, 3) := by decide +kernel
theorem dX7_moneyOf_8 : decode cX7_moneyOf 8 = .ok (.invokestatic 76, 3) := by decide +kernel
theorem dX7_moneyOf_11 : decode cX7_moneyOf 11 = .ok (.aload_n 0, 1) := by decide +kernel
theorem dX7_moneyOf_12 : decode cX7_moneyOf 12 = .ok (.getfield 10, 3) := by decide +kernel
theorem dX7_moneyOf_15 : decode cX7_moneyOf 15 = .ok (.getfield 93, 3) := by decide +kernel
theorem dX7_moneyOf_18 : decode cX7_moneyOf 18 = .ok (.iload_n 1, 1) := by decide +kernel
theorem dX7_moneyOf_19 : decode cX7_moneyOf 19 = .ok (.iaload, 1) := by decide +kernel
theorem dX7_moneyOf_20 : decode cX7_moneyOf 20 = .ok (.ireturn, 1) := by decide +kernel
theorem dX7_isCalled_0 : decode cX7_isCalled 0 = .ok (.iload_n 1, 1) := by decide +kernel
theorem dX7_isCalled_1 : decode cX7_isCalled 1 = .ok (.aload_n 0, 1) := by decide +kernel
theorem dX7_isCalled_2 : decode cX7_isCalled 2 = .ok (.getfield 10, 3) := by decide +kernel
theorem dX7_isCalled_5 : decode cX7_isCalled 5 = .ok (.getfield 90, 3) := by decide +kernel
theorem dX7_isCalled_8 : decode cX7_isCalled 8 = .ok (.invokestatic 76, 3) := by decide +kernel
theorem dX7_isCalled_11 : decode cX7_isCalled 11 = .ok (.aload_n 0, 1) := by decide +kernel
theorem dX7_isCalled_12 : decode cX7_isCalled 12 = .ok (.getfield 10, 3) := by decide +kernel
theorem dX7_isCalled_15 : decode cX7_isCalled 15 = .ok (.getfield 96, 3) := by decide +kernel
theorem dX7_isCalled_18 : decode cX7_isCalled 18 = .ok (.iload_n 1, 1) := by decide +kernel
theorem dX7_isCalled_19 : decode cX7_isCalled 19 = .ok (.iaload, 1) := by decide +kernel
theorem dX7_isCalled_20 : decode cX7_isCalled 20 = .ok (.iconst 1, 1) := by decide +kernel
theorem dX7_isCalled_21 : decode cX7_isCalled 21 = .ok (.if_icmp .ne 7, 3) := by decide +kernel
theorem dX7_isCalled_24 : decode cX7_isCalled 24 = .ok (.iconst 1, 1) := by decide +kernel
theorem dX7_isCalled_25 : decode cX7_isCalled 25 = .ok (.goto 4, 3) := by decide +kernel
theorem dX7_isCalled_28 : decode cX7_isCalled 28 = .ok (.iconst 0, 1) := by decide +kernel
theorem dX7_isCalled_29 : decode cX7_isCalled 29 = .ok (.ireturn, 1) := by decide +kernel
theorem dX7_hasDefaulted_0 : decode cX7_hasDefaulted 0 = .ok (.iload_n 1, 1) := by decide +kernel
theorem dX7_hasDefaulted_1 : decode cX7_hasDefaulted 1 = .ok (.aload_n 0, 1) := by decide +kernel
theorem dX7_hasDefaulted_2 : decode cX7_hasDefaulted 2 = .ok (.getfield 10, 3) := by decide +kernel
theorem dX7_hasDefaulted_5 : decode cX7_hasDefaulted 5 = .ok (.getfield 90, 3) := by decide +kernel
theorem dX7_hasDefaulted_8 : decode cX7_hasDefaulted 8 = .ok (.invokestatic 76, 3) := by decide +kernel
theorem dX7_hasDefaulted_11 : decode cX7_hasDefaulted 11 = .ok (.aload_n 0, 1) := by decide +kernel
theorem dX7_hasDefaulted_12 : decode cX7_hasDefaulted 12 = .ok (.getfield 10, 3) := by decide +kernel
theorem dX7_hasDefaulted_15 : decode cX7_hasDefaulted 15 = .ok (.getfield 96, 3) := by decide +kernel
theorem dX7_hasDefaulted_18 : decode cX7_hasDefaulted 18 = .ok (.iload_n 1, 1) := by decide +kernel
theorem dX7_hasDefaulted_19 : decode cX7_hasDefaulted 19 = .ok (.iaload, 1) := by decide +kernel
theorem dX7_hasDefaulted_20 : decode cX7_hasDefaulted 20 = .ok (.iconst 2, 1) := by decide +kernel
theorem dX7_hasDefaulted_21 : decode cX7_hasDefaulted 21 = .ok (.if_icmp .ne 7, 3) := by decide +kernel
theorem dX7_hasDefaulted_24 : decode cX7_hasDefaulted 24 = .ok (.iconst 1, 1) := by decide +kernel
theorem dX7_hasDefaulted_25 : decode cX7_hasDefaulted 25 = .ok (.goto 4, 3) := by decide +kernel
theorem dX7_hasDefaulted_28 : decode cX7_hasDefaulted 28 = .ok (.iconst 0, 1) := by decide +kernel
theorem dX7_hasDefaulted_29 : decode cX7_hasDefaulted 29 = .ok (.ireturn, 1) := by decide +kernel
theorem dX7_positionOf_0 : decode cX7_positionOf 0 = .ok (.iload_n 1, 1) := by decide +kernel
theorem dX7_positionOf_1 : decode cX7_positionOf 1 = .ok (.aload_n 0, 1) := by decide +kernel
theorem dX7_positionOf_2 : decode cX7_positionOf 2 = .ok (.getfield 10, 3) := by decide +kernel
theorem dX7_positionOf_5 : decode cX7_positionOf 5 = .ok (.getfield 90, 3) := by decide +kernel
theorem dX7_positionOf_8 : decode cX7_positionOf 8 = .ok (.invokestatic 76, 3) := by decide +kernel
theorem dX7_positionOf_11 : decode cX7_positionOf 11 = .ok (.iload_n 2, 1) := by decide +kernel
theorem dX7_positionOf_12 : decode cX7_positionOf 12 = .ok (.aload_n 0, 1) := by decide +kernel
theorem dX7_positionOf_13 : decode cX7_positionOf 13 = .ok (.getfield 10, 3) := by decide +kernel
theorem dX7_positionOf_16 : decode cX7_positionOf 16 = .ok (.getfield 73, 3) := by decide +kernel
theorem dX7_positionOf_19 : decode cX7_positionOf 19 = .ok (.invokestatic 76, 3) := by decide +kernel
theorem dX7_positionOf_22 : decode cX7_positionOf 22 = .ok (.aload_n 0, 1) := by decide +kernel
theorem dX7_positionOf_23 : decode cX7_positionOf 23 = .ok (.getfield 10, 3) := by decide +kernel
theorem dX7_positionOf_26 : decode cX7_positionOf 26 = .ok (.iload_n 1, 1) := by decide +kernel
theorem dX7_positionOf_27 : decode cX7_positionOf 27 = .ok (.iload_n 2, 1) := by decide +kernel
theorem dX7_positionOf_28 : decode cX7_positionOf 28 = .ok (.invokevirtual 99, 3) := by decide +kernel
theorem dX7_positionOf_31 : decode cX7_positionOf 31 = .ok (.ireturn, 1) := by decide +kernel
theorem dX7_openQuantity_0 : decode cX7_openQuantity 0 = .ok (.iload_n 1, 1) := by decide +kernel
theorem dX7_openQuantity_1 : decode cX7_openQuantity 1 = .ok (.aload_n 0, 1) := by decide +kernel
theorem dX7_openQuantity_2 : decode cX7_openQuantity 2 = .ok (.getfield 10, 3) := by decide +kernel
theorem dX7_openQuantity_5 : decode cX7_openQuantity 5 = .ok (.getfield 73, 3) := by decide +kernel
theorem dX7_openQuantity_8 : decode cX7_openQuantity 8 = .ok (.invokestatic 76, 3) := by decide +kernel
theorem dX7_openQuantity_11 : decode cX7_openQuantity 11 = .ok (.aload_n 0, 1) := by decide +kernel
theorem dX7_openQuantity_12 : decode cX7_openQuantity 12 = .ok (.getfield 10, 3) := by decide +kernel
theorem dX7_openQuantity_15 : decode cX7_openQuantity 15 = .ok (.iload_n 1, 1) := by decide +kernel
theorem dX7_openQuantity_16 : decode cX7_openQuantity 16 = .ok (.invokevirtual 103, 3) := by decide +kernel
theorem dX7_openQuantity_19 : decode cX7_openQuantity 19 = .ok (.ireturn, 1) := by decide +kernel
theorem dX7_contractCount_0 : decode cX7_contractCount 0 = .ok (.aload_n 0, 1) := by decide +kernel
theorem dX7_contractCount_1 : decode cX7_contractCount 1 = .ok (.getfield 10, 3) := by decide +kernel
theorem dX7_contractCount_4 : decode cX7_contractCount 4 = .ok (.getfield 107, 3) := by decide +kernel
theorem dX7_contractCount_7 : decode cX7_contractCount 7 = .ok (.ireturn, 1) := by decide +kernel
theorem dX7_buyerOf_0 : decode cX7_buyerOf 0 = .ok (.iload_n 1, 1) := by decide +kernel
theorem dX7_buyerOf_1 : decode cX7_buyerOf 1 = .ok (.aload_n 0, 1) := by decide +kernel
theorem dX7_buyerOf_2 : decode cX7_buyerOf 2 = .ok (.getfield 10, 3) := by decide +kernel
theorem dX7_buyerOf_5 : decode cX7_buyerOf 5 = .ok (.getfield 107, 3) := by decide +kernel
theorem dX7_buyerOf_8 : decode cX7_buyerOf 8 = .ok (.invokestatic 76, 3) := by decide +kernel
theorem dX7_buyerOf_11 : decode cX7_buyerOf 11 = .ok (.aload_n 0, 1) := by decide +kernel
theorem dX7_buyerOf_12 : decode cX7_buyerOf 12 = .ok (.getfield 10, 3) := by decide +kernel
theorem dX7_buyerOf_15 : decode cX7_buyerOf 15 = .ok (.getfield 110, 3) := by decide +kernel
theorem dX7_buyerOf_18 : decode cX7_buyerOf 18 = .ok (.iload_n 1, 1) := by decide +kernel
theorem dX7_buyerOf_19 : decode cX7_buyerOf 19 = .ok (.iaload, 1) := by decide +kernel
theorem dX7_buyerOf_20 : decode cX7_buyerOf 20 = .ok (.ireturn, 1) := by decide +kernel
theorem dX7_sellerOf_0 : decode cX7_sellerOf 0 = .ok (.iload_n 1, 1) := by decide +kernel
theorem dX7_sellerOf_1 : decode cX7_sellerOf 1 = .ok (.aload_n 0, 1) := by decide +kernel
theorem dX7_sellerOf_2 : decode cX7_sellerOf 2 = .ok (.getfield 10, 3) := by decide +kernel
theorem dX7_sellerOf_5 : decode cX7_sellerOf 5 = .ok (.getfield 107, 3) := by decide +kernel
theorem dX7_sellerOf_8 : decode cX7_sellerOf 8 = .ok (.invokestatic 76, 3) := by decide +kernel
theorem dX7_sellerOf_11 : decode cX7_sellerOf 11 = .ok (.aload_n 0, 1) := by decide +kernel
theorem dX7_sellerOf_12 : decode cX7_sellerOf 12 = .ok (.getfield 10, 3) := by decide +kernel
theorem dX7_sellerOf_15 : decode cX7_sellerOf 15 = .ok (.getfield 113, 3) := by decide +kernel
theorem dX7_sellerOf_18 : decode cX7_sellerOf 18 = .ok (.iload_n 1, 1) := by decide +kernel
theorem dX7_sellerOf_19 : decode cX7_sellerOf 19 = .ok (.iaload, 1) := by decide +kernel
theorem dX7_sellerOf_20 : decode cX7_sellerOf 20 = .ok (.ireturn, 1) := by decide +kernel
theorem dX7_horizonOf_0 : decode cX7_horizonOf 0 = .ok (.iload_n 1, 1) := by decide +kernel
theorem dX7_horizonOf_1 : decode cX7_horizonOf 1 = .ok (.aload_n 0, 1) := by decide +kernel
theorem dX7_horizonOf_2 : decode cX7_horizonOf 2 = .ok (.getfield 10, 3) := by decide +kernel
theorem dX7_horizonOf_5 : decode cX7_horizonOf 5 = .ok (.getfield 107, 3) := by decide +kernel
theorem dX7_horizonOf_8 : decode cX7_horizonOf 8 = .ok (.invokestatic 76, 3) := by decide +kernel
theorem dX7_horizonOf_11 : decode cX7_horizonOf 11 = .ok (.aload_n 0, 1) := by decide +kernel
theorem dX7_horizonOf_12 : decode cX7_horizonOf 12 = .ok (.getfield 10, 3) := by decide +kernel
theorem dX7_horizonOf_15 : decode cX7_horizonOf 15 = .ok (.getfield 116, 3) := by decide +kernel
theorem dX7_horizonOf_18 : decode cX7_horizonOf 18 = .ok (.iload_n 1, 1) := by decide +kernel
theorem dX7_horizonOf_19 : decode cX7_horizonOf 19 = .ok (.iaload, 1) := by decide +kernel
theorem dX7_horizonOf_20 : decode cX7_horizonOf 20 = .ok (.ireturn, 1) := by decide +kernel
theorem dX7_quantityOf_0 : decode cX7_quantityOf 0 = .ok (.iload_n 1, 1) := by decide +kernel
theorem dX7_quantityOf_1 : decode cX7_quantityOf 1 = .ok (.aload_n 0, 1) := by decide +kernel
theorem dX7_quantityOf_2 : decode cX7_quantityOf 2 = .ok (.getfield 10, 3) := by decide +kernel
theorem dX7_quantityOf_5 : decode cX7_quantityOf 5 = .ok (.getfield 107, 3) := by decide +kernel
theorem dX7_quantityOf_8 : decode cX7_quantityOf 8 = .ok (.invokestatic 76, 3) := by decide +kernel
theorem dX7_quantityOf_11 : decode cX7_quantityOf 11 = .ok (.aload_n 0, 1) := by decide +kernel
theorem dX7_quantityOf_12 : decode cX7_quantityOf 12 = .ok (.getfield 10, 3) := by decide +kernel
theorem dX7_quantityOf_15 : decode cX7_quantityOf 15 = .ok (.getfield 119, 3) := by decide +kernel
theorem dX7_quantityOf_18 : decode cX7_quantityOf 18 = .ok (.iload_n 1, 1) := by decide +kernel
theorem dX7_quantityOf_19 : decode cX7_quantityOf 19 = .ok (.iaload, 1) := by decide +kernel
theorem dX7_quantityOf_20 : decode cX7_quantityOf 20 = .ok (.ireturn, 1) := by decide +kernel
theorem dX7_daysLeft_0 : decode cX7_daysLeft 0 = .ok (.iload_n 1, 1) := by decide +kernel
theorem dX7_daysLeft_1 : decode cX7_daysLeft 1 = .ok (.aload_n 0, 1) := by decide +kernel
theorem dX7_daysLeft_2 : decode cX7_daysLeft 2 = .ok (.getfield 10, 3) := by decide +kernel
theorem dX7_daysLeft_5 : decode cX7_daysLeft 5 = .ok (.getfield 107, 3) := by decide +kernel
theorem dX7_daysLeft_8 : decode cX7_daysLeft 8 = .ok (.invokestatic 76, 3) := by decide +kernel
theorem dX7_daysLeft_11 : decode cX7_daysLeft 11 = .ok (.aload_n 0, 1) := by decide +kernel
theorem dX7_daysLeft_12 : decode cX7_daysLeft 12 = .ok (.getfield 10, 3) := by decide +kernel
theorem dX7_daysLeft_15 : decode cX7_daysLeft 15 = .ok (.getfield 122, 3) := by decide +kernel
theorem dX7_daysLeft_18 : decode cX7_daysLeft 18 = .ok (.iload_n 1, 1) := by decide +kernel
theorem dX7_daysLeft_19 : decode cX7_daysLeft 19 = .ok (.iaload, 1) := by decide +kernel
theorem dX7_daysLeft_20 : decode cX7_daysLeft 20 = .ok (.aload_n 0, 1) := by decide +kernel
theorem dX7_daysLeft_21 : decode cX7_daysLeft 21 = .ok (.getfield 10, 3) := by decide +kernel
theorem dX7_daysLeft_24 : decode cX7_daysLeft 24 = .ok (.getfield 125, 3) := by decide +kernel
theorem dX7_daysLeft_27 : decode cX7_daysLeft 27 = .ok (.isub, 1) := by decide +kernel
theorem dX7_daysLeft_28 : decode cX7_daysLeft 28 = .ok (.ireturn, 1) := by decide +kernel
theorem dX7_marginOf_0 : decode cX7_marginOf 0 = .ok (.iload_n 1, 1) := by decide +kernel
theorem dX7_marginOf_1 : decode cX7_marginOf 1 = .ok (.aload_n 0, 1) := by decide +kernel
theorem dX7_marginOf_2 : decode cX7_marginOf 2 = .ok (.getfield 10, 3) := by decide +kernel
theorem dX7_marginOf_5 : decode cX7_marginOf 5 = .ok (.getfield 90, 3) := by decide +kernel
theorem dX7_marginOf_8 : decode cX7_marginOf 8 = .ok (.invokestatic 76, 3) := by decide +kernel
theorem dX7_marginOf_11 : decode cX7_marginOf 11 = .ok (.aload_n 0, 1) := by decide +kernel
theorem dX7_marginOf_12 : decode cX7_marginOf 12 = .ok (.getfield 10, 3) := by decide +kernel
theorem dX7_marginOf_15 : decode cX7_marginOf 15 = .ok (.iload_n 1, 1) := by decide +kernel
theorem dX7_marginOf_16 : decode cX7_marginOf 16 = .ok (.invokevirtual 128, 3) := by decide +kernel
theorem dX7_marginOf_19 : decode cX7_marginOf 19 = .ok (.ireturn, 1) := by decide +kernel
theorem dX7_marginByPositions_0 : decode cX7_marginByPositions 0 = .ok (.iload_n 1, 1) := by decide +kernel
theorem dX7_marginByPositions_1 : decode cX7_marginByPositions 1 = .ok (.aload_n 0, 1) := by decide +kernel
theorem dX7_marginByPositions_2 : decode cX7_marginByPositions 2 = .ok (.getfield 10, 3) := by decide +kernel
theorem dX7_marginByPositions_5 : decode cX7_marginByPositions 5 = .ok (.getfield 90, 3) := by decide +kernel
theorem dX7_marginByPositions_8 : decode cX7_marginByPositions 8 = .ok (.invokestatic 76, 3) := by decide +kernel
theorem dX7_marginByPositions_11 : decode cX7_marginByPositions 11 = .ok (.aload_n 0, 1) := by decide +kernel
theorem dX7_marginByPositions_12 : decode cX7_marginByPositions 12 = .ok (.getfield 10, 3) := by decide +kernel
theorem dX7_marginByPositions_15 : decode cX7_marginByPositions 15 = .ok (.iload_n 1, 1) := by decide +kernel
theorem dX7_marginByPositions_16 : decode cX7_marginByPositions 16 = .ok (.invokevirtual 131, 3) := by decide +kernel
theorem dX7_marginByPositions_19 : decode cX7_marginByPositions 19 = .ok (.ireturn, 1) := by decide +kernel
theorem dX7_variationOf_0 : decode cX7_variationOf 0 = .ok (.iload_n 1, 1) := by decide +kernel
theorem dX7_variationOf_1 : decode cX7_variationOf 1 = .ok (.aload_n 0, 1) := by decide +kernel
theorem dX7_variationOf_2 : decode cX7_variationOf 2 = .ok (.getfield 10, 3) := by decide +kernel
theorem dX7_variationOf_5 : decode cX7_variationOf 5 = .ok (.getfield 90, 3) := by decide +kernel
theorem dX7_variationOf_8 : decode cX7_variationOf 8 = .ok (.invokestatic 76, 3) := by decide +kernel
theorem dX7_variationOf_11 : decode cX7_variationOf 11 = .ok (.aload_n 0, 1) := by decide +kernel
theorem dX7_variationOf_12 : decode cX7_variationOf 12 = .ok (.getfield 10, 3) := by decide +kernel
theorem dX7_variationOf_15 : decode cX7_variationOf 15 = .ok (.iload_n 1, 1) := by decide +kernel
theorem dX7_variationOf_16 : decode cX7_variationOf 16 = .ok (.invokevirtual 134, 3) := by decide +kernel
theorem dX7_variationOf_19 : decode cX7_variationOf 19 = .ok (.ireturn, 1) := by decide +kernel
theorem dX7_payments_0 : decode cX7_payments 0 = .ok (.aload_n 0, 1) := by decide +kernel
theorem dX7_payments_1 : decode cX7_payments 1 = .ok (.getfield 32, 3) := by decide +kernel
theorem dX7_payments_4 : decode cX7_payments 4 = .ok (.aload_n 0, 1) := by decide +kernel
theorem dX7_payments_5 : decode cX7_payments 5 = .ok (.getfield 10, 3) := by decide +kernel
theorem dX7_payments_8 : decode cX7_payments 8 = .ok (.invokevirtual 137, 3) := by decide +kernel
theorem dX7_payments_11 : decode cX7_payments 11 = .ok (.aload_n 0, 1) := by decide +kernel
theorem dX7_payments_12 : decode cX7_payments 12 = .ok (.getfield 32, 3) := by decide +kernel
theorem dX7_payments_15 : decode cX7_payments 15 = .ok (.invokevirtual 141, 3) := by decide +kernel
theorem dX7_payments_18 : decode cX7_payments 18 = .ok (.ireturn, 1) := by decide +kernel
theorem dX7_paymentsByGroups_0 : decode cX7_paymentsByGroups 0 = .ok (.aload_n 0, 1) := by decide +kernel
theorem dX7_paymentsByGroups_1 : decode cX7_paymentsByGroups 1 = .ok (.getfield 32, 3) := by decide +kernel
theorem dX7_paymentsByGroups_4 : decode cX7_paymentsByGroups 4 = .ok (.aload_n 0, 1) := by decide +kernel
theorem dX7_paymentsByGroups_5 : decode cX7_paymentsByGroups 5 = .ok (.getfield 10, 3) := by decide +kernel
theorem dX7_paymentsByGroups_8 : decode cX7_paymentsByGroups 8 = .ok (.invokevirtual 137, 3) := by decide +kernel
theorem dX7_paymentsByGroups_11 : decode cX7_paymentsByGroups 11 = .ok (.aload_n 0, 1) := by decide +kernel
theorem dX7_paymentsByGroups_12 : decode cX7_paymentsByGroups 12 = .ok (.getfield 32, 3) := by decide +kernel
theorem dX7_paymentsByGroups_15 : decode cX7_paymentsByGroups 15 = .ok (.invokevirtual 145, 3) := by decide +kernel
theorem dX7_paymentsByGroups_18 : decode cX7_paymentsByGroups 18 = .ok (.ireturn, 1) := by decide +kernel
theorem dX7_leastMargins_0 : decode cX7_leastMargins 0 = .ok (.aload_n 0, 1) := by decide +kernel
theorem dX7_leastMargins_1 : decode cX7_leastMargins 1 = .ok (.iload_n 1, 1) := by decide +kernel
theorem dX7_leastMargins_2 : decode cX7_leastMargins 2 = .ok (.invokevirtual 148, 3) := by decide +kernel
theorem dX7_leastMargins_5 : decode cX7_leastMargins 5 = .ok (.invokestatic 151, 3) := by decide +kernel
theorem dX7_leastMargins_8 : decode cX7_leastMargins 8 = .ok (.aload_n 0, 1) := by decide +kernel
theorem dX7_leastMargins_9 : decode cX7_leastMargins 9 = .ok (.getfield 39, 3) := by decide +kernel
theorem dX7_leastMargins_12 : decode cX7_leastMargins 12 = .ok (.aload_n 0, 1) := by decide +kernel
theorem dX7_leastMargins_13 : decode cX7_leastMargins 13 = .ok (.getfield 10, 3) := by decide +kernel
theorem dX7_leastMargins_16 : decode cX7_leastMargins 16 = .ok (.invokevirtual 155, 3) := by decide +kernel
theorem dX7_leastMargins_19 : decode cX7_leastMargins 19 = .ok (.ireturn, 1) := by decide +kernel
theorem dX7_leastMarginsBySets_0 : decode cX7_leastMarginsBySets 0 = .ok (.aload_n 0, 1) := by decide +kernel
theorem dX7_leastMarginsBySets_1 : decode cX7_leastMarginsBySets 1 = .ok (.iload_n 1, 1) := by decide +kernel
theorem dX7_leastMarginsBySets_2 : decode cX7_leastMarginsBySets 2 = .ok (.invokevirtual 148, 3) := by decide +kernel
theorem dX7_leastMarginsBySets_5 : decode cX7_leastMarginsBySets 5 = .ok (.invokestatic 151, 3) := by decide +kernel
theorem dX7_leastMarginsBySets_8 : decode cX7_leastMarginsBySets 8 = .ok (.aload_n 0, 1) := by decide +kernel
theorem dX7_leastMarginsBySets_9 : decode cX7_leastMarginsBySets 9 = .ok (.getfield 39, 3) := by decide +kernel
theorem dX7_leastMarginsBySets_12 : decode cX7_leastMarginsBySets 12 = .ok (.aload_n 0, 1) := by decide +kernel
theorem dX7_leastMarginsBySets_13 : decode cX7_leastMarginsBySets 13 = .ok (.getfield 10, 3) := by decide +kernel
theorem dX7_leastMarginsBySets_16 : decode cX7_leastMarginsBySets 16 = .ok (.invokevirtual 159, 3) := by decide +kernel
theorem dX7_leastMarginsBySets_19 : decode cX7_leastMarginsBySets 19 = .ok (.ireturn, 1) := by decide +kernel
theorem dX7_takerOf_0 : decode cX7_takerOf 0 = .ok (.iload_n 2, 1) := by decide +kernel
theorem dX7_takerOf_1 : decode cX7_takerOf 1 = .ok (.aload_n 0, 1) := by decide +kernel
theorem dX7_takerOf_2 : decode cX7_takerOf 2 = .ok (.getfield 10, 3) := by decide +kernel
theorem dX7_takerOf_5 : decode cX7_takerOf 5 = .ok (.getfield 73, 3) := by decide +kernel
theorem dX7_takerOf_8 : decode cX7_takerOf 8 = .ok (.invokestatic 76, 3) := by decide +kernel
theorem dX7_takerOf_11 : decode cX7_takerOf 11 = .ok (.aload_n 0, 1) := by decide +kernel
theorem dX7_takerOf_12 : decode cX7_takerOf 12 = .ok (.iload_n 1, 1) := by decide +kernel
theorem dX7_takerOf_13 : decode cX7_takerOf 13 = .ok (.invokevirtual 148, 3) := by decide +kernel
theorem dX7_takerOf_16 : decode cX7_takerOf 16 = .ok (.invokestatic 151, 3) := by decide +kernel
theorem dX7_takerOf_19 : decode cX7_takerOf 19 = .ok (.aload_n 0, 1) := by decide +kernel
theorem dX7_takerOf_20 : decode cX7_takerOf 20 = .ok (.getfield 39, 3) := by decide +kernel
theorem dX7_takerOf_23 : decode cX7_takerOf 23 = .ok (.aload_n 0, 1) := by decide +kernel
theorem dX7_takerOf_24 : decode cX7_takerOf 24 = .ok (.getfield 10, 3) := by decide +kernel
theorem dX7_takerOf_27 : decode cX7_takerOf 27 = .ok (.invokevirtual 155, 3) := by decide +kernel
theorem dX7_takerOf_30 : decode cX7_takerOf 30 = .ok (.pop, 1) := by decide +kernel
theorem dX7_takerOf_31 : decode cX7_takerOf 31 = .ok (.aload_n 0, 1) := by decide +kernel
theorem dX7_takerOf_32 : decode cX7_takerOf 32 = .ok (.getfield 39, 3) := by decide +kernel
theorem dX7_takerOf_35 : decode cX7_takerOf 35 = .ok (.iload_n 2, 1) := by decide +kernel
theorem dX7_takerOf_36 : decode cX7_takerOf 36 = .ok (.invokevirtual 161, 3) := by decide +kernel
theorem dX7_takerOf_39 : decode cX7_takerOf 39 = .ok (.istore_n 3, 1) := by decide +kernel
theorem dX7_takerOf_40 : decode cX7_takerOf 40 = .ok (.iload_n 3, 1) := by decide +kernel
theorem dX7_takerOf_41 : decode cX7_takerOf 41 = .ok (.iconst (-1), 1) := by decide +kernel
theorem dX7_takerOf_42 : decode cX7_takerOf 42 = .ok (.if_icmp .ne 13, 3) := by decide +kernel
theorem dX7_takerOf_45 : decode cX7_takerOf 45 = .ok (.new 164, 3) := by decide +kernel
theorem dX7_takerOf_48 : decode cX7_takerOf 48 = .ok (.dup, 1) := by decide +kernel
theorem dX7_takerOf_49 : decode cX7_takerOf 49 = .ok (.ldc 166, 2) := by decide +kernel
theorem dX7_takerOf_51 : decode cX7_takerOf 51 = .ok (.invokespecial 168, 3) := by decide +kernel
theorem dX7_takerOf_54 : decode cX7_takerOf 54 = .ok (.athrow, 1) := by decide +kernel
theorem dX7_takerOf_55 : decode cX7_takerOf 55 = .ok (.iload_n 3, 1) := by decide +kernel
theorem dX7_takerOf_56 : decode cX7_takerOf 56 = .ok (.ireturn, 1) := by decide +kernel
theorem dX7_traderByMoney_0 : decode cX7_traderByMoney 0 = .ok (.aload_n 0, 1) := by decide +kernel
theorem dX7_traderByMoney_1 : decode cX7_traderByMoney 1 = .ok (.getfield 10, 3) := by decide +kernel
theorem dX7_traderByMoney_4 : decode cX7_traderByMoney 4 = .ok (.iload_n 1, 1) := by decide +kernel
theorem dX7_traderByMoney_5 : decode cX7_traderByMoney 5 = .ok (.invokevirtual 171, 3) := by decide +kernel
theorem dX7_traderByMoney_8 : decode cX7_traderByMoney 8 = .ok (.istore_n 2, 1) := by decide +kernel
theorem dX7_traderByMoney_9 : decode cX7_traderByMoney 9 = .ok (.iload_n 2, 1) := by decide +kernel
theorem dX7_traderByMoney_10 : decode cX7_traderByMoney 10 = .ok (.iconst (-1), 1) := by decide +kernel
theorem dX7_traderByMoney_11 : decode cX7_traderByMoney 11 = .ok (.if_icmp .ne 13, 3) := by decide +kernel
theorem dX7_traderByMoney_14 : decode cX7_traderByMoney 14 = .ok (.new 164, 3) := by decide +kernel
theorem dX7_traderByMoney_17 : decode cX7_traderByMoney 17 = .ok (.dup, 1) := by decide +kernel
theorem dX7_traderByMoney_18 : decode cX7_traderByMoney 18 = .ok (.ldc 174, 2) := by decide +kernel
theorem dX7_traderByMoney_20 : decode cX7_traderByMoney 20 = .ok (.invokespecial 168, 3) := by decide +kernel
theorem dX7_traderByMoney_23 : decode cX7_traderByMoney 23 = .ok (.athrow, 1) := by decide +kernel
theorem dX7_traderByMoney_24 : decode cX7_traderByMoney 24 = .ok (.iload_n 2, 1) := by decide +kernel
theorem dX7_traderByMoney_25 : decode cX7_traderByMoney 25 = .ok (.ireturn, 1) := by decide +kernel
theorem dX7_fund_0 : decode cX7_fund 0 = .ok (.aload_n 0, 1) := by decide +kernel
theorem dX7_fund_1 : decode cX7_fund 1 = .ok (.getfield 10, 3) := by decide +kernel
theorem dX7_fund_4 : decode cX7_fund 4 = .ok (.getfield 176, 3) := by decide +kernel
theorem dX7_fund_7 : decode cX7_fund 7 = .ok (.ireturn, 1) := by decide +kernel
theorem dX7_writtenOff_0 : decode cX7_writtenOff 0 = .ok (.aload_n 0, 1) := by decide +kernel
theorem dX7_writtenOff_1 : decode cX7_writtenOff 1 = .ok (.getfield 10, 3) := by decide +kernel
theorem dX7_writtenOff_4 : decode cX7_writtenOff 4 = .ok (.getfield 179, 3) := by decide +kernel
theorem dX7_writtenOff_7 : decode cX7_writtenOff 7 = .ok (.ireturn, 1) := by decide +kernel
theorem dX7_broughtIn_0 : decode cX7_broughtIn 0 = .ok (.aload_n 0, 1) := by decide +kernel
theorem dX7_broughtIn_1 : decode cX7_broughtIn 1 = .ok (.getfield 10, 3) := by decide +kernel
theorem dX7_broughtIn_4 : decode cX7_broughtIn 4 = .ok (.getfield 182, 3) := by decide +kernel
theorem dX7_broughtIn_7 : decode cX7_broughtIn 7 = .ok (.lreturn, 1) := by decide +kernel
theorem dX7_withdrawn_0 : decode cX7_withdrawn 0 = .ok (.aload_n 0, 1) := by decide +kernel
theorem dX7_withdrawn_1 : decode cX7_withdrawn 1 = .ok (.getfield 10, 3) := by decide +kernel
theorem dX7_withdrawn_4 : decode cX7_withdrawn 4 = .ok (.getfield 186, 3) := by decide +kernel
theorem dX7_withdrawn_7 : decode cX7_withdrawn 7 = .ok (.lreturn, 1) := by decide +kernel
theorem dX7_dayCount_0 : decode cX7_dayCount 0 = .ok (.aload_n 0, 1) := by decide +kernel
theorem dX7_dayCount_1 : decode cX7_dayCount 1 = .ok (.getfield 10, 3) := by decide +kernel
theorem dX7_dayCount_4 : decode cX7_dayCount 4 = .ok (.getfield 125, 3) := by decide +kernel
theorem dX7_dayCount_7 : decode cX7_dayCount 7 = .ok (.ireturn, 1) := by decide +kernel
theorem dX7_meanMargin_0 : decode cX7_meanMargin 0 = .ok (.aload_n 0, 1) := by decide +kernel
theorem dX7_meanMargin_1 : decode cX7_meanMargin 1 = .ok (.getfield 10, 3) := by decide +kernel
theorem dX7_meanMargin_4 : decode cX7_meanMargin 4 = .ok (.getfield 90, 3) := by decide +kernel
theorem dX7_meanMargin_7 : decode cX7_meanMargin 7 = .ok (.ifCond .ne 13, 3) := by decide +kernel
theorem dX7_meanMargin_10 : decode cX7_meanMargin 10 = .ok (.new 189, 3) := by decide +kernel
theorem dX7_meanMargin_13 : decode cX7_meanMargin 13 = .ok (.dup, 1) := by decide +kernel
theorem dX7_meanMargin_14 : decode cX7_meanMargin 14 = .ok (.ldc 191, 2) := by decide +kernel
theorem dX7_meanMargin_16 : decode cX7_meanMargin 16 = .ok (.invokespecial 193, 3) := by decide +kernel
theorem dX7_meanMargin_19 : decode cX7_meanMargin 19 = .ok (.athrow, 1) := by decide +kernel
theorem dX7_meanMargin_20 : decode cX7_meanMargin 20 = .ok (.iconst 0, 1) := by decide +kernel
theorem dX7_meanMargin_21 : decode cX7_meanMargin 21 = .ok (.istore_n 1, 1) := by decide +kernel
theorem dX7_meanMargin_22 : decode cX7_meanMargin 22 = .ok (.iconst 0, 1) := by decide +kernel
theorem dX7_meanMargin_23 : decode cX7_meanMargin 23 = .ok (.istore_n 2, 1) := by decide +kernel
theorem dX7_meanMargin_24 : decode cX7_meanMargin 24 = .ok (.iload_n 2, 1) := by decide +kernel
theorem dX7_meanMargin_25 : decode cX7_meanMargin 25 = .ok (.aload_n 0, 1) := by decide +kernel
theorem dX7_meanMargin_26 : decode cX7_meanMargin 26 = .ok (.getfield 10, 3) := by decide +kernel
theorem dX7_meanMargin_29 : decode cX7_meanMargin 29 = .ok (.getfield 90, 3) := by decide +kernel
theorem dX7_meanMargin_32 : decode cX7_meanMargin 32 = .ok (.if_icmp .ge 20, 3) := by decide +kernel
theorem dX7_meanMargin_35 : decode cX7_meanMargin 35 = .ok (.iload_n 1, 1) := by decide +kernel
theorem dX7_meanMargin_36 : decode cX7_meanMargin 36 = .ok (.aload_n 0, 1) := by decide +kernel
theorem dX7_meanMargin_37 : decode cX7_meanMargin 37 = .ok (.getfield 10, 3) := by decide +kernel
theorem dX7_meanMargin_40 : decode cX7_meanMargin 40 = .ok (.iload_n 2, 1) := by decide +kernel
theorem dX7_meanMargin_41 : decode cX7_meanMargin 41 = .ok (.invokevirtual 131, 3) := by decide +kernel
theorem dX7_meanMargin_44 : decode cX7_meanMargin 44 = .ok (.iadd, 1) := by decide +kernel
theorem dX7_meanMargin_45 : decode cX7_meanMargin 45 = .ok (.istore_n 1, 1) := by decide +kernel
theorem dX7_meanMargin_46 : decode cX7_meanMargin 46 = .ok (.iinc 2 1, 3) := by decide +kernel
theorem dX7_meanMargin_49 : decode cX7_meanMargin 49 = .ok (.goto (-25), 3) := by decide +kernel
theorem dX7_meanMargin_52 : decode cX7_meanMargin 52 = .ok (.iload_n 1, 1) := by decide +kernel
theorem dX7_meanMargin_53 : decode cX7_meanMargin 53 = .ok (.i2d, 1) := by decide +kernel
theorem dX7_meanMargin_54 : decode cX7_meanMargin 54 = .ok (.aload_n 0, 1) := by decide +kernel
theorem dX7_meanMargin_55 : decode cX7_meanMargin 55 = .ok (.getfield 10, 3) := by decide +kernel
theorem dX7_meanMargin_58 : decode cX7_meanMargin 58 = .ok (.getfield 90, 3) := by decide +kernel
theorem dX7_meanMargin_61 : decode cX7_meanMargin 61 = .ok (.i2d, 1) := by decide +kernel
theorem dX7_meanMargin_62 : decode cX7_meanMargin 62 = .ok (.ddiv, 1) := by decide +kernel
theorem dX7_meanMargin_63 : decode cX7_meanMargin 63 = .ok (.dreturn, 1) := by decide +kernel
theorem dX7_soundShare_0 : decode cX7_soundShare 0 = .ok (.aload_n 0, 1) := by decide +kernel
theorem dX7_soundShare_1 : decode cX7_soundShare 1 = .ok (.getfield 10, 3) := by decide +kernel
theorem dX7_soundShare_4 : decode cX7_soundShare 4 = .ok (.getfield 90, 3) := by decide +kernel
theorem dX7_soundShare_7 : decode cX7_soundShare 7 = .ok (.ifCond .ne 13, 3) := by decide +kernel
theorem dX7_soundShare_10 : decode cX7_soundShare 10 = .ok (.new 189, 3) := by decide +kernel
theorem dX7_soundShare_13 : decode cX7_soundShare 13 = .ok (.dup, 1) := by decide +kernel
theorem dX7_soundShare_14 : decode cX7_soundShare 14 = .ok (.ldc 191, 2) := by decide +kernel
theorem dX7_soundShare_16 : decode cX7_soundShare 16 = .ok (.invokespecial 193, 3) := by decide +kernel
theorem dX7_soundShare_19 : decode cX7_soundShare 19 = .ok (.athrow, 1) := by decide +kernel
theorem dX7_soundShare_20 : decode cX7_soundShare 20 = .ok (.iconst 0, 1) := by decide +kernel
theorem dX7_soundShare_21 : decode cX7_soundShare 21 = .ok (.istore_n 1, 1) := by decide +kernel
theorem dX7_soundShare_22 : decode cX7_soundShare 22 = .ok (.iconst 0, 1) := by decide +kernel
theorem dX7_soundShare_23 : decode cX7_soundShare 23 = .ok (.istore_n 2, 1) := by decide +kernel
theorem dX7_soundShare_24 : decode cX7_soundShare 24 = .ok (.iload_n 2, 1) := by decide +kernel
theorem dX7_soundShare_25 : decode cX7_soundShare 25 = .ok (.aload_n 0, 1) := by decide +kernel
theorem dX7_soundShare_26 : decode cX7_soundShare 26 = .ok (.getfield 10, 3) := by decide +kernel
theorem dX7_soundShare_29 : decode cX7_soundShare 29 = .ok (.getfield 90, 3) := by decide +kernel
theorem dX7_soundShare_32 : decode cX7_soundShare 32 = .ok (.if_icmp .ge 24, 3) := by decide +kernel
theorem dX7_soundShare_35 : decode cX7_soundShare 35 = .ok (.aload_n 0, 1) := by decide +kernel
theorem dX7_soundShare_36 : decode cX7_soundShare 36 = .ok (.getfield 10, 3) := by decide +kernel
theorem dX7_soundShare_39 : decode cX7_soundShare 39 = .ok (.getfield 96, 3) := by decide +kernel
theorem dX7_soundShare_42 : decode cX7_soundShare 42 = .ok (.iload_n 2, 1) := by decide +kernel
theorem dX7_soundShare_43 : decode cX7_soundShare 43 = .ok (.iaload, 1) := by decide +kernel
theorem dX7_soundShare_44 : decode cX7_soundShare 44 = .ok (.ifCond .ne 6, 3) := by decide +kernel
theorem dX7_soundShare_47 : decode cX7_soundShare 47 = .ok (.iinc 1 1, 3) := by decide +kernel
theorem dX7_soundShare_50 : decode cX7_soundShare 50 = .ok (.iinc 2 1, 3) := by decide +kernel
theorem dX7_soundShare_53 : decode cX7_soundShare 53 = .ok (.goto (-29), 3) := by decide +kernel
theorem dX7_soundShare_56 : decode cX7_soundShare 56 = .ok (.iload_n 1, 1) := by decide +kernel
theorem dX7_soundShare_57 : decode cX7_soundShare 57 = .ok (.i2f, 1) := by decide +kernel
theorem dX7_soundShare_58 : decode cX7_soundShare 58 = .ok (.aload_n 0, 1) := by decide +kernel
theorem dX7_soundShare_59 : decode cX7_soundShare 59 = .ok (.getfield 10, 3) := by decide +kernel
theorem dX7_soundShare_62 : decode cX7_soundShare 62 = .ok (.getfield 90, 3) := by decide +kernel
theorem dX7_soundShare_65 : decode cX7_soundShare 65 = .ok (.i2f, 1) := by decide +kernel
theorem dX7_soundShare_66 : decode cX7_soundShare 66 = .ok (.fdiv, 1) := by decide +kernel
theorem dX7_soundShare_67 : decode cX7_soundShare 67 = .ok (.freturn, 1) := by decide +kernel
theorem dX7_writeContract_0 : decode cX7_writeContract 0 = .ok (.iload_n 1, 1) := by decide +kernel
theorem dX7_writeContract_1 : decode cX7_writeContract 1 = .ok (.aload_n 0, 1) := by decide +kernel
theorem dX7_writeContract_2 : decode cX7_writeContract 2 = .ok (.getfield 10, 3) := by decide +kernel
theorem dX7_writeContract_5 : decode cX7_writeContract 5 = .ok (.getfield 107, 3) := by decide +kernel
theorem dX7_writeContract_8 : decode cX7_writeContract 8 = .ok (.invokestatic 76, 3) := by decide +kernel
theorem dX7_writeContract_11 : decode cX7_writeContract 11 = .ok (.aload_n 0, 1) := by decide +kernel
theorem dX7_writeContract_12 : decode cX7_writeContract 12 = .ok (.getfield 57, 3) := by decide +kernel
theorem dX7_writeContract_15 : decode cX7_writeContract 15 = .ok (.iconst 0, 1) := by decide +kernel
theorem dX7_writeContract_16 : decode cX7_writeContract 16 = .ok (.invokevirtual 194, 3) := by decide +kernel
theorem dX7_writeContract_19 : decode cX7_writeContract 19 = .ok (.aload_n 0, 1) := by decide +kernel
theorem dX7_writeContract_20 : decode cX7_writeContract 20 = .ok (.getfield 57, 3) := by decide +kernel
theorem dX7_writeContract_23 : decode cX7_writeContract 23 = .ok (.aload_n 0, 1) := by decide +kernel
theorem dX7_writeContract_24 : decode cX7_writeContract 24 = .ok (.getfield 10, 3) := by decide +kernel
theorem dX7_writeContract_27 : decode cX7_writeContract 27 = .ok (.getfield 110, 3) := by decide +kernel
theorem dX7_writeContract_30 : decode cX7_writeContract 30 = .ok (.iload_n 1, 1) := by decide +kernel
theorem dX7_writeContract_31 : decode cX7_writeContract 31 = .ok (.iaload, 1) := by decide +kernel
theorem dX7_writeContract_32 : decode cX7_writeContract 32 = .ok (.invokevirtual 197, 3) := by decide +kernel
theorem dX7_writeContract_35 : decode cX7_writeContract 35 = .ok (.bipush 60, 2) := by decide +kernel
theorem dX7_writeContract_37 : decode cX7_writeContract 37 = .ok (.invokevirtual 201, 3) := by decide +kernel
theorem dX7_writeContract_40 : decode cX7_writeContract 40 = .ok (.aload_n 0, 1) := by decide +kernel
theorem dX7_writeContract_41 : decode cX7_writeContract 41 = .ok (.getfield 10, 3) := by decide +kernel
theorem dX7_writeContract_44 : decode cX7_writeContract 44 = .ok (.getfield 113, 3) := by decide +kernel
theorem dX7_writeContract_47 : decode cX7_writeContract 47 = .ok (.iload_n 1, 1) := by decide +kernel
theorem dX7_writeContract_48 : decode cX7_writeContract 48 = .ok (.iaload, 1) := by decide +kernel
theorem dX7_writeContract_49 : decode cX7_writeContract 49 = .ok (.invokevirtual 197, 3) := by decide +kernel
theorem dX7_writeContract_52 : decode cX7_writeContract 52 = .ok (.pop, 1) := by decide +kernel
theorem dX7_writeContract_53 : decode cX7_writeContract 53 = .ok (.aload_n 0, 1) := by decide +kernel
theorem dX7_writeContract_54 : decode cX7_writeContract 54 = .ok (.getfield 57, 3) := by decide +kernel
theorem dX7_writeContract_57 : decode cX7_writeContract 57 = .ok (.bipush 58, 2) := by decide +kernel
theorem dX7_writeContract_59 : decode cX7_writeContract 59 = .ok (.invokevirtual 201, 3) := by decide +kernel
theorem dX7_writeContract_62 : decode cX7_writeContract 62 = .ok (.aload_n 0, 1) := by decide +kernel
theorem dX7_writeContract_63 : decode cX7_writeContract 63 = .ok (.getfield 10, 3) := by decide +kernel
theorem dX7_writeContract_66 : decode cX7_writeContract 66 = .ok (.getfield 119, 3) := by decide +kernel
theorem dX7_writeContract_69 : decode cX7_writeContract 69 = .ok (.iload_n 1, 1) := by decide +kernel
theorem dX7_writeContract_70 : decode cX7_writeContract 70 = .ok (.iaload, 1) := by decide +kernel
theorem dX7_writeContract_71 : decode cX7_writeContract 71 = .ok (.invokevirtual 197, 3) := by decide +kernel
theorem dX7_writeContract_74 : decode cX7_writeContract 74 = .ok (.bipush 104, 2) := by decide +kernel
theorem dX7_writeContract_76 : decode cX7_writeContract 76 = .ok (.invokevirtual 201, 3) := by decide +kernel
theorem dX7_writeContract_79 : decode cX7_writeContract 79 = .ok (.aload_n 0, 1) := by decide +kernel
theorem dX7_writeContract_80 : decode cX7_writeContract 80 = .ok (.getfield 10, 3) := by decide +kernel
theorem dX7_writeContract_83 : decode cX7_writeContract 83 = .ok (.getfield 116, 3) := by decide +kernel
theorem dX7_writeContract_86 : decode cX7_writeContract 86 = .ok (.iload_n 1, 1) := by decide +kernel
theorem dX7_writeContract_87 : decode cX7_writeContract 87 = .ok (.iaload, 1) := by decide +kernel
theorem dX7_writeContract_88 : decode cX7_writeContract 88 = .ok (.invokevirtual 197, 3) := by decide +kernel
theorem dX7_writeContract_91 : decode cX7_writeContract 91 = .ok (.pop, 1) := by decide +kernel
theorem dX7_writeContract_92 : decode cX7_writeContract 92 = .ok (.aload_n 0, 1) := by decide +kernel
theorem dX7_writeContract_93 : decode cX7_writeContract 93 = .ok (.getfield 57, 3) := by decide +kernel
theorem dX7_writeContract_96 : decode cX7_writeContract 96 = .ok (.bipush 43, 2) := by decide +kernel
theorem dX7_writeContract_98 : decode cX7_writeContract 98 = .ok (.invokevirtual 201, 3) := by decide +kernel
theorem dX7_writeContract_101 : decode cX7_writeContract 101 = .ok (.aload_n 0, 1) := by decide +kernel
theorem dX7_writeContract_102 : decode cX7_writeContract 102 = .ok (.getfield 10, 3) := by decide +kernel
theorem dX7_writeContract_105 : decode cX7_writeContract 105 = .ok (.getfield 122, 3) := by decide +kernel
theorem dX7_writeContract_108 : decode cX7_writeContract 108 = .ok (.iload_n 1, 1) := by decide +kernel
theorem dX7_writeContract_109 : decode cX7_writeContract 109 = .ok (.iaload, 1) := by decide +kernel
theorem dX7_writeContract_110 : decode cX7_writeContract 110 = .ok (.aload_n 0, 1) := by decide +kernel
theorem dX7_writeContract_111 : decode cX7_writeContract 111 = .ok (.getfield 10, 3) := by decide +kernel
theorem dX7_writeContract_114 : decode cX7_writeContract 114 = .ok (.getfield 125, 3) := by decide +kernel
theorem dX7_writeContract_117 : decode cX7_writeContract 117 = .ok (.isub, 1) := by decide +kernel
theorem dX7_writeContract_118 : decode cX7_writeContract 118 = .ok (.invokevirtual 197, 3) := by decide +kernel
theorem dX7_writeContract_121 : decode cX7_writeContract 121 = .ok (.pop, 1) := by decide +kernel
theorem dX7_writeContract_122 : decode cX7_writeContract 122 = .ok (.aload_n 0, 1) := by decide +kernel
theorem dX7_writeContract_123 : decode cX7_writeContract 123 = .ok (.getfield 57, 3) := by decide +kernel
theorem dX7_writeContract_126 : decode cX7_writeContract 126 = .ok (.invokevirtual 204, 3) := by decide +kernel
theorem dX7_writeContract_129 : decode cX7_writeContract 129 = .ok (.ireturn, 1) := by decide +kernel
theorem dX7_writeTrader_0 : decode cX7_writeTrader 0 = .ok (.iload_n 1, 1) := by decide +kernel
theorem dX7_writeTrader_1 : decode cX7_writeTrader 1 = .ok (.aload_n 0, 1) := by decide +kernel
theorem dX7_writeTrader_2 : decode cX7_writeTrader 2 = .ok (.getfield 10, 3) := by decide +kernel
theorem dX7_writeTrader_5 : decode cX7_writeTrader 5 = .ok (.getfield 90, 3) := by decide +kernel
theorem dX7_writeTrader_8 : decode cX7_writeTrader 8 = .ok (.invokestatic 76, 3) := by decide +kernel
theorem dX7_writeTrader_11 : decode cX7_writeTrader 11 = .ok (.aload_n 0, 1) := by decide +kernel
theorem dX7_writeTrader_12 : decode cX7_writeTrader 12 = .ok (.getfield 57, 3) := by decide +kernel
theorem dX7_writeTrader_15 : decode cX7_writeTrader 15 = .ok (.iconst 0, 1) := by decide +kernel
theorem dX7_writeTrader_16 : decode cX7_writeTrader 16 = .ok (.invokevirtual 194, 3) := by decide +kernel
theorem dX7_writeTrader_19 : decode cX7_writeTrader 19 = .ok (.aload_n 0, 1) := by decide +kernel
theorem dX7_writeTrader_20 : decode cX7_writeTrader 20 = .ok (.getfield 57, 3) := by decide +kernel
theorem dX7_writeTrader_23 : decode cX7_writeTrader 23 = .ok (.aload_n 0, 1) := by decide +kernel
theorem dX7_writeTrader_24 : decode cX7_writeTrader 24 = .ok (.getfield 10, 3) := by decide +kernel
theorem dX7_writeTrader_27 : decode cX7_writeTrader 27 = .ok (.getfield 93, 3) := by decide +kernel
theorem dX7_writeTrader_30 : decode cX7_writeTrader 30 = .ok (.iload_n 1, 1) := by decide +kernel
theorem dX7_writeTrader_31 : decode cX7_writeTrader 31 = .ok (.iaload, 1) := by decide +kernel
theorem dX7_writeTrader_32 : decode cX7_writeTrader 32 = .ok (.invokevirtual 197, 3) := by decide +kernel
theorem dX7_writeTrader_35 : decode cX7_writeTrader 35 = .ok (.bipush 47, 2) := by decide +kernel
theorem dX7_writeTrader_37 : decode cX7_writeTrader 37 = .ok (.invokevirtual 201, 3) := by decide +kernel
theorem dX7_writeTrader_40 : decode cX7_writeTrader 40 = .ok (.aload_n 0, 1) := by decide +kernel
theorem dX7_writeTrader_41 : decode cX7_writeTrader 41 = .ok (.getfield 10, 3) := by decide +kernel
theorem dX7_writeTrader_44 : decode cX7_writeTrader 44 = .ok (.iload_n 1, 1) := by decide +kernel
theorem dX7_writeTrader_45 : decode cX7_writeTrader 45 = .ok (.invokevirtual 131, 3) := by decide +kernel
theorem dX7_writeTrader_48 : decode cX7_writeTrader 48 = .ok (.invokevirtual 197, 3) := by decide +kernel
theorem dX7_writeTrader_51 : decode cX7_writeTrader 51 = .ok (.pop, 1) := by decide +kernel
theorem dX7_writeTrader_52 : decode cX7_writeTrader 52 = .ok (.aload_n 0, 1) := by decide +kernel
theorem dX7_writeTrader_53 : decode cX7_writeTrader 53 = .ok (.getfield 10, 3) := by decide +kernel
theorem dX7_writeTrader_56 : decode cX7_writeTrader 56 = .ok (.getfield 96, 3) := by decide +kernel
theorem dX7_writeTrader_59 : decode cX7_writeTrader 59 = .ok (.iload_n 1, 1) := by decide +kernel
theorem dX7_writeTrader_60 : decode cX7_writeTrader 60 = .ok (.iaload, 1) := by decide +kernel
theorem dX7_writeTrader_61 : decode cX7_writeTrader 61 = .ok (.iconst 1, 1) := by decide +kernel
theorem dX7_writeTrader_62 : decode cX7_writeTrader 62 = .ok (.if_icmp .ne 16, 3) := by decide +kernel
theorem dX7_writeTrader_65 : decode cX7_writeTrader 65 = .ok (.aload_n 0, 1) := by decide +kernel
theorem dX7_writeTrader_66 : decode cX7_writeTrader 66 = .ok (.getfield 57, 3) := by decide +kernel
theorem dX7_writeTrader_69 : decode cX7_writeTrader 69 = .ok (.bipush 33, 2) := by decide +kernel
theorem dX7_writeTrader_71 : decode cX7_writeTrader 71 = .ok (.invokevirtual 201, 3) := by decide +kernel
theorem dX7_writeTrader_74 : decode cX7_writeTrader 74 = .ok (.pop, 1) := by decide +kernel
theorem dX7_writeTrader_75 : decode cX7_writeTrader 75 = .ok (.goto 26, 3) := by decide +kernel
theorem dX7_writeTrader_78 : decode cX7_writeTrader 78 = .ok (.aload_n 0, 1) := by decide +kernel
theorem dX7_writeTrader_79 : decode cX7_writeTrader 79 = .ok (.getfield 10, 3) := by decide +kernel
theorem dX7_writeTrader_82 : decode cX7_writeTrader 82 = .ok (.getfield 96, 3) := by decide +kernel
theorem dX7_writeTrader_85 : decode cX7_writeTrader 85 = .ok (.iload_n 1, 1) := by decide +kernel
theorem dX7_writeTrader_86 : decode cX7_writeTrader 86 = .ok (.iaload, 1) := by decide +kernel
theorem dX7_writeTrader_87 : decode cX7_writeTrader 87 = .ok (.iconst 2, 1) := by decide +kernel
theorem dX7_writeTrader_88 : decode cX7_writeTrader 88 = .ok (.if_icmp .ne 13, 3) := by decide +kernel
theorem dX7_writeTrader_91 : decode cX7_writeTrader 91 = .ok (.aload_n 0, 1) := by decide +kernel
theorem dX7_writeTrader_92 : decode cX7_writeTrader 92 = .ok (.getfield 57, 3) := by decide +kernel
theorem dX7_writeTrader_95 : decode cX7_writeTrader 95 = .ok (.bipush 120, 2) := by decide +kernel
theorem dX7_writeTrader_97 : decode cX7_writeTrader 97 = .ok (.invokevirtual 201, 3) := by decide +kernel
theorem dX7_writeTrader_100 : decode cX7_writeTrader 100 = .ok (.pop, 1) := by decide +kernel
theorem dX7_writeTrader_101 : decode cX7_writeTrader 101 = .ok (.aload_n 0, 1) := by decide +kernel
theorem dX7_writeTrader_102 : decode cX7_writeTrader 102 = .ok (.getfield 57, 3) := by decide +kernel
theorem dX7_writeTrader_105 : decode cX7_writeTrader 105 = .ok (.invokevirtual 204, 3) := by decide +kernel
theorem dX7_writeTrader_108 : decode cX7_writeTrader 108 = .ok (.ireturn, 1) := by decide +kernel
theorem dX7_lineAt_0 : decode cX7_lineAt 0 = .ok (.iload_n 1, 1) := by decide +kernel
theorem dX7_lineAt_1 : decode cX7_lineAt 1 = .ok (.aload_n 0, 1) := by decide +kernel
theorem dX7_lineAt_2 : decode cX7_lineAt 2 = .ok (.getfield 57, 3) := by decide +kernel
theorem dX7_lineAt_5 : decode cX7_lineAt 5 = .ok (.invokevirtual 204, 3) := by decide +kernel
theorem dX7_lineAt_8 : decode cX7_lineAt 8 = .ok (.invokestatic 76, 3) := by decide +kernel
theorem dX7_lineAt_11 : decode cX7_lineAt 11 = .ok (.aload_n 0, 1) := by decide +kernel
theorem dX7_lineAt_12 : decode cX7_lineAt 12 = .ok (.getfield 57, 3) := by decide +kernel
theorem dX7_lineAt_15 : decode cX7_lineAt 15 = .ok (.iload_n 1, 1) := by decide +kernel
theorem dX7_lineAt_16 : decode cX7_lineAt 16 = .ok (.invokevirtual 207, 3) := by decide +kernel
theorem dX7_lineAt_19 : decode cX7_lineAt 19 = .ok (.ireturn, 1) := by decide +kernel
theorem dX7_isConsistent_0 : decode cX7_isConsistent 0 = .ok (.aload_n 0, 1) := by decide +kernel
theorem dX7_isConsistent_1 : decode cX7_isConsistent 1 = .ok (.invokevirtual 211, 3) := by decide +kernel
theorem dX7_isConsistent_4 : decode cX7_isConsistent 4 = .ok (.ifCond .eq 41, 3) := by decide +kernel
theorem dX7_isConsistent_7 : decode cX7_isConsistent 7 = .ok (.aload_n 0, 1) := by decide +kernel
theorem dX7_isConsistent_8 : decode cX7_isConsistent 8 = .ok (.invokevirtual 215, 3) := by decide +kernel
theorem dX7_isConsistent_11 : decode cX7_isConsistent 11 = .ok (.ifCond .eq 34, 3) := by decide +kernel
theorem dX7_isConsistent_14 : decode cX7_isConsistent 14 = .ok (.aload_n 0, 1) := by decide +kernel
theorem dX7_isConsistent_15 : decode cX7_isConsistent 15 = .ok (.invokevirtual 218, 3) := by decide +kernel
theorem dX7_isConsistent_18 : decode cX7_isConsistent 18 = .ok (.ifCond .eq 27, 3) := by decide +kernel
theorem dX7_isConsistent_21 : decode cX7_isConsistent 21 = .ok (.aload_n 0, 1) := by decide +kernel
theorem dX7_isConsistent_22 : decode cX7_isConsistent 22 = .ok (.getfield 10, 3) := by decide +kernel
theorem dX7_isConsistent_25 : decode cX7_isConsistent 25 = .ok (.invokevirtual 221, 3) := by decide +kernel
theorem dX7_isConsistent_28 : decode cX7_isConsistent 28 = .ok (.ifCond .eq 17, 3) := by decide +kernel
theorem dX7_isConsistent_31 : decode cX7_isConsistent 31 = .ok (.aload_n 0, 1) := by decide +kernel
theorem dX7_isConsistent_32 : decode cX7_isConsistent 32 = .ok (.getfield 10, 3) := by decide +kernel
theorem dX7_isConsistent_35 : decode cX7_isConsistent 35 = .ok (.invokevirtual 224, 3) := by decide +kernel
theorem dX7_isConsistent_38 : decode cX7_isConsistent 38 = .ok (.ifCond .eq 7, 3) := by decide +kernel
theorem dX7_isConsistent_41 : decode cX7_isConsistent 41 = .ok (.iconst 1, 1) := by decide +kernel
theorem dX7_isConsistent_42 : decode cX7_isConsistent 42 = .ok (.goto 4, 3) := by decide +kernel
theorem dX7_isConsistent_45 : decode cX7_isConsistent 45 = .ok (.iconst 0, 1) := by decide +kernel
theorem dX7_isConsistent_46 : decode cX7_isConsistent 46 = .ok (.ireturn, 1) := by decide +kernel
theorem dX7_type_0 : decode cX7_type 0 = .ok (.iload_n 1, 1) := by decide +kernel
theorem dX7_type_1 : decode cX7_type 1 = .ok (.bipush 32, 2) := by decide +kernel
theorem dX7_type_3 : decode cX7_type 3 = .ok (.if_icmp .lt 9, 3) := by decide +kernel
theorem dX7_type_6 : decode cX7_type 6 = .ok (.iload_n 1, 1) := by decide +kernel
theorem dX7_type_7 : decode cX7_type 7 = .ok (.bipush 126, 2) := by decide +kernel
theorem dX7_type_9 : decode cX7_type 9 = .ok (.if_icmp .le 13, 3) := by decide +kernel
theorem dX7_type_12 : decode cX7_type 12 = .ok (.new 227, 3) := by decide +kernel
theorem dX7_type_15 : decode cX7_type 15 = .ok (.dup, 1) := by decide +kernel
theorem dX7_type_16 : decode cX7_type 16 = .ok (.ldc 229, 2) := by decide +kernel
theorem dX7_type_18 : decode cX7_type 18 = .ok (.invokespecial 231, 3) := by decide +kernel
theorem dX7_type_21 : decode cX7_type 21 = .ok (.athrow, 1) := by decide +kernel
theorem dX7_type_22 : decode cX7_type 22 = .ok (.aload_n 0, 1) := by decide +kernel
theorem dX7_type_23 : decode cX7_type 23 = .ok (.getfield 53, 3) := by decide +kernel
theorem dX7_type_26 : decode cX7_type 26 = .ok (.invokevirtual 204, 3) := by decide +kernel
theorem dX7_type_29 : decode cX7_type 29 = .ok (.bipush 60, 2) := by decide +kernel
theorem dX7_type_31 : decode cX7_type 31 = .ok (.if_icmp .lt 13, 3) := by decide +kernel
theorem dX7_type_34 : decode cX7_type 34 = .ok (.new 232, 3) := by decide +kernel
theorem dX7_type_37 : decode cX7_type 37 = .ok (.dup, 1) := by decide +kernel
theorem dX7_type_38 : decode cX7_type 38 = .ok (.ldc 234, 2) := by decide +kernel
theorem dX7_type_40 : decode cX7_type 40 = .ok (.invokespecial 236, 3) := by decide +kernel
theorem dX7_type_43 : decode cX7_type 43 = .ok (.athrow, 1) := by decide +kernel
theorem dX7_type_44 : decode cX7_type 44 = .ok (.aload_n 0, 1) := by decide +kernel
theorem dX7_type_45 : decode cX7_type 45 = .ok (.getfield 53, 3) := by decide +kernel
theorem dX7_type_48 : decode cX7_type 48 = .ok (.iload_n 1, 1) := by decide +kernel
theorem dX7_type_49 : decode cX7_type 49 = .ok (.invokevirtual 201, 3) := by decide +kernel
theorem dX7_type_52 : decode cX7_type 52 = .ok (.pop, 1) := by decide +kernel
theorem dX7_type_53 : decode cX7_type 53 = .ok (.aload_n 0, 1) := by decide +kernel
theorem dX7_type_54 : decode cX7_type 54 = .ok (.getfield 53, 3) := by decide +kernel
theorem dX7_type_57 : decode cX7_type 57 = .ok (.invokevirtual 204, 3) := by decide +kernel
theorem dX7_type_60 : decode cX7_type 60 = .ok (.ireturn, 1) := by decide +kernel
theorem dX7_execute_0 : decode cX7_execute 0 = .ok (.aload_n 0, 1) := by decide +kernel
theorem dX7_execute_1 : decode cX7_execute 1 = .ok (.getfield 46, 3) := by decide +kernel
theorem dX7_execute_4 : decode cX7_execute 4 = .ok (.aload_n 0, 1) := by decide +kernel
theorem dX7_execute_5 : decode cX7_execute 5 = .ok (.getfield 53, 3) := by decide +kernel
theorem dX7_execute_8 : decode cX7_execute 8 = .ok (.invokevirtual 237, 3) := by decide +kernel
theorem dX7_execute_11 : decode cX7_execute 11 = .ok (.istore_n 1, 1) := by decide +kernel
theorem dX7_execute_12 : decode cX7_execute 12 = .ok (.aload_n 0, 1) := by decide +kernel
theorem dX7_execute_13 : decode cX7_execute 13 = .ok (.getfield 53, 3) := by decide +kernel
theorem dX7_execute_16 : decode cX7_execute 16 = .ok (.iconst 0, 1) := by decide +kernel
theorem dX7_execute_17 : decode cX7_execute 17 = .ok (.invokevirtual 194, 3) := by decide +kernel
theorem dX7_execute_20 : decode cX7_execute 20 = .ok (.iload_n 1, 1) := by decide +kernel
theorem dX7_execute_21 : decode cX7_execute 21 = .ok (.ifCond .ne 24, 3) := by decide +kernel
theorem dX7_execute_24 : decode cX7_execute 24 = .ok (.aload_n 0, 1) := by decide +kernel
theorem dX7_execute_25 : decode cX7_execute 25 = .ok (.aload_n 0, 1) := by decide +kernel
theorem dX7_execute_26 : decode cX7_execute 26 = .ok (.getfield 46, 3) := by decide +kernel
theorem dX7_execute_29 : decode cX7_execute 29 = .ok (.getfield 241, 3) := by decide +kernel
theorem dX7_execute_32 : decode cX7_execute 32 = .ok (.putfield 60, 3) := by decide +kernel
theorem dX7_execute_35 : decode cX7_execute 35 = .ok (.new 227, 3) := by decide +kernel
theorem dX7_execute_38 : decode cX7_execute 38 = .ok (.dup, 1) := by decide +kernel
theorem dX7_execute_39 : decode cX7_execute 39 = .ok (.ldc 243, 2) := by decide +kernel
theorem dX7_execute_41 : decode cX7_execute 41 = .ok (.invokespecial 231, 3) := by decide +kernel
theorem dX7_execute_44 : decode cX7_execute 44 = .ok (.athrow, 1) := by decide +kernel
theorem dX7_execute_45 : decode cX7_execute 45 = .ok (.aload_n 0, 1) := by decide +kernel
theorem dX7_execute_46 : decode cX7_execute 46 = .ok (.getfield 16, 3) := by decide +kernel
theorem dX7_execute_49 : decode cX7_execute 49 = .ok (.aload_n 0, 1) := by decide +kernel
theorem dX7_execute_50 : decode cX7_execute 50 = .ok (.getfield 10, 3) := by decide +kernel
theorem dX7_execute_53 : decode cX7_execute 53 = .ok (.invokevirtual 245, 3) := by decide +kernel
theorem dX7_execute_56 : decode cX7_execute 56 = .ok (.iconst 0, 1) := by decide +kernel
theorem dX7_execute_57 : decode cX7_execute 57 = .ok (.istore_n 2, 1) := by decide +kernel
theorem dX7_execute_58 : decode cX7_execute 58 = .ok (.iload_n 2, 1) := by decide +kernel
theorem dX7_execute_59 : decode cX7_execute 59 = .ok (.aload_n 0, 1) := by decide +kernel
theorem dX7_execute_60 : decode cX7_execute 60 = .ok (.getfield 46, 3) := by decide +kernel
theorem dX7_execute_63 : decode cX7_execute 63 = .ok (.getfield 248, 3) := by decide +kernel
theorem dX7_execute_66 : decode cX7_execute 66 = .ok (.if_icmp .ge 134, 3) := by decide +kernel
theorem dX7_execute_69 : decode cX7_execute 69 = .ok (.aload_n 0, 1) := by decide +kernel
theorem dX7_execute_70 : decode cX7_execute 70 = .ok (.getfield 46, 3) := by decide +kernel
theorem dX7_execute_73 : decode cX7_execute 73 = .ok (.iload_n 2, 1) := by decide +kernel
theorem dX7_execute_74 : decode cX7_execute 74 = .ok (.invokevirtual 251, 3) := by decide +kernel
theorem dX7_execute_77 : decode cX7_execute 77 = .ok (.istore_n 3, 1) := by decide +kernel
theorem dX7_execute_78 : decode cX7_execute 78 = .ok (.aload_n 0, 1) := by decide +kernel
theorem dX7_execute_79 : decode cX7_execute 79 = .ok (.getfield 46, 3) := by decide +kernel
theorem dX7_execute_82 : decode cX7_execute 82 = .ok (.iload_n 2, 1) := by decide +kernel
theorem dX7_execute_83 : decode cX7_execute 83 = .ok (.iconst 0, 1) := by decide +kernel
theorem dX7_execute_84 : decode cX7_execute 84 = .ok (.invokevirtual 254, 3) := by decide +kernel
theorem dX7_execute_87 : decode cX7_execute 87 = .ok (.istore 4, 2) := by decide +kernel
theorem dX7_execute_89 : decode cX7_execute 89 = .ok (.aload_n 0, 1) := by decide +kernel
theorem dX7_execute_90 : decode cX7_execute 90 = .ok (.getfield 46, 3) := by decide +kernel
theorem dX7_execute_93 : decode cX7_execute 93 = .ok (.iload_n 2, 1) := by decide +kernel
theorem dX7_execute_94 : decode cX7_execute 94 = .ok (.iconst 1, 1) := by decide +kernel
theorem dX7_execute_95 : decode cX7_execute 95 = .ok (.invokevirtual 254, 3) := by decide +kernel
theorem dX7_execute_98 : decode cX7_execute 98 = .ok (.istore 5, 2) := by decide +kernel
theorem dX7_execute_100 : decode cX7_execute 100 = .ok (.aload_n 0, 1) := by decide +kernel
theorem dX7_execute_101 : decode cX7_execute 101 = .ok (.getfield 46, 3) := by decide +kernel
theorem dX7_execute_104 : decode cX7_execute 104 = .ok (.iload_n 2, 1) := by decide +kernel
theorem dX7_execute_105 : decode cX7_execute 105 = .ok (.iconst 2, 1) := by decide +kernel
theorem dX7_execute_106 : decode cX7_execute 106 = .ok (.invokevirtual 254, 3) := by decide +kernel
theorem dX7_execute_109 : decode cX7_execute 109 = .ok (.istore 6, 2) := by decide +kernel
theorem dX7_execute_111 : decode cX7_execute 111 = .ok (.aload_n 0, 1) := by decide +kernel
theorem dX7_execute_112 : decode cX7_execute 112 = .ok (.getfield 46, 3) := by decide +kernel
theorem dX7_execute_115 : decode cX7_execute 115 = .ok (.iload_n 2, 1) := by decide +kernel
theorem dX7_execute_116 : decode cX7_execute 116 = .ok (.iconst 3, 1) := by decide +kernel
theorem dX7_execute_117 : decode cX7_execute 117 = .ok (.invokevirtual 254, 3) := by decide +kernel
theorem dX7_execute_120 : decode cX7_execute 120 = .ok (.istore 7, 2) := by decide +kernel
theorem dX7_execute_122 : decode cX7_execute 122 = .ok (.aload_n 0, 1) := by decide +kernel
theorem dX7_execute_123 : decode cX7_execute 123 = .ok (.getfield 46, 3) := by decide +kernel
theorem dX7_execute_126 : decode cX7_execute 126 = .ok (.iload_n 2, 1) := by decide +kernel
theorem dX7_execute_127 : decode cX7_execute 127 = .ok (.iconst 4, 1) := by decide +kernel
theorem dX7_execute_128 : decode cX7_execute 128 = .ok (.invokevirtual 254, 3) := by decide +kernel
theorem dX7_execute_131 : decode cX7_execute 131 = .ok (.istore 8, 2) := by decide +kernel
theorem dX7_execute_133 : decode cX7_execute 133 = .ok (.aload_n 0, 1) := by decide +kernel
theorem dX7_execute_134 : decode cX7_execute 134 = .ok (.iload_n 3, 1) := by decide +kernel
theorem dX7_execute_135 : decode cX7_execute 135 = .ok (.iload 4, 2) := by decide +kernel
theorem dX7_execute_137 : decode cX7_execute 137 = .ok (.iload 5, 2) := by decide +kernel
theorem dX7_execute_139 : decode cX7_execute 139 = .ok (.iload 6, 2) := by decide +kernel
theorem dX7_execute_141 : decode cX7_execute 141 = .ok (.iload 7, 2) := by decide +kernel
theorem dX7_execute_143 : decode cX7_execute 143 = .ok (.iload 8, 2) := by decide +kernel
theorem dX7_execute_145 : decode cX7_execute 145 = .ok (.invokevirtual 257, 3) := by decide +kernel
theorem dX7_execute_148 : decode cX7_execute 148 = .ok (.ifCond .eq 30, 3) := by decide +kernel
theorem dX7_execute_151 : decode cX7_execute 151 = .ok (.aload_n 0, 1) := by decide +kernel
theorem dX7_execute_152 : decode cX7_execute 152 = .ok (.getfield 10, 3) := by decide +kernel
theorem dX7_execute_155 : decode cX7_execute 155 = .ok (.aload_n 0, 1) := by decide +kernel
theorem dX7_execute_156 : decode cX7_execute 156 = .ok (.getfield 16, 3) := by decide +kernel
theorem dX7_execute_159 : decode cX7_execute 159 = .ok (.invokevirtual 245, 3) := by decide +kernel
theorem dX7_execute_162 : decode cX7_execute 162 = .ok (.aload_n 0, 1) := by decide +kernel
theorem dX7_execute_163 : decode cX7_execute 163 = .ok (.iload_n 2, 1) := by decide +kernel
theorem dX7_execute_164 : decode cX7_execute 164 = .ok (.putfield 64, 3) := by decide +kernel
theorem dX7_execute_167 : decode cX7_execute 167 = .ok (.new 232, 3) := by decide +kernel
theorem dX7_execute_170 : decode cX7_execute 170 = .ok (.dup, 1) := by decide +kernel
theorem dX7_execute_171 : decode cX7_execute 171 = .ok (.ldc_w 260, 3) := by decide +kernel
theorem dX7_execute_174 : decode cX7_execute 174 = .ok (.invokespecial 236, 3) := by decide +kernel
theorem dX7_execute_177 : decode cX7_execute 177 = .ok (.athrow, 1) := by decide +kernel
theorem dX7_execute_178 : decode cX7_execute 178 = .ok (.aload_n 0, 1) := by decide +kernel
theorem dX7_execute_179 : decode cX7_execute 179 = .ok (.iload_n 3, 1) := by decide +kernel
theorem dX7_execute_180 : decode cX7_execute 180 = .ok (.iload 4, 2) := by decide +kernel
theorem dX7_execute_182 : decode cX7_execute 182 = .ok (.iload 5, 2) := by decide +kernel
theorem dX7_execute_184 : decode cX7_execute 184 = .ok (.iload 6, 2) := by decide +kernel
theorem dX7_execute_186 : decode cX7_execute 186 = .ok (.iload 7, 2) := by decide +kernel
theorem dX7_execute_188 : decode cX7_execute 188 = .ok (.iload 8, 2) := by decide +kernel
theorem dX7_execute_190 : decode cX7_execute 190 = .ok (.invokevirtual 262, 3) := by decide +kernel
theorem dX7_execute_193 : decode cX7_execute 193 = .ok (.pop, 1) := by decide +kernel
theorem dX7_execute_194 : decode cX7_execute 194 = .ok (.iinc 2 1, 3) := by decide +kernel
theorem dX7_execute_197 : decode cX7_execute 197 = .ok (.goto (-139), 3) := by decide +kernel
theorem dX7_execute_200 : decode cX7_execute 200 = .ok (.aload_n 0, 1) := by decide +kernel
theorem dX7_execute_201 : decode cX7_execute 201 = .ok (.getfield 25, 3) := by decide +kernel
theorem dX7_execute_204 : decode cX7_execute 204 = .ok (.aload_n 0, 1) := by decide +kernel
theorem dX7_execute_205 : decode cX7_execute 205 = .ok (.getfield 16, 3) := by decide +kernel
theorem dX7_execute_208 : decode cX7_execute 208 = .ok (.invokevirtual 265, 3) := by decide +kernel
theorem dX7_execute_211 : decode cX7_execute 211 = .ok (.aload_n 0, 1) := by decide +kernel
theorem dX7_execute_212 : decode cX7_execute 212 = .ok (.getfield 46, 3) := by decide +kernel
theorem dX7_execute_215 : decode cX7_execute 215 = .ok (.getfield 248, 3) := by decide +kernel
theorem dX7_execute_218 : decode cX7_execute 218 = .ok (.ireturn, 1) := by decide +kernel
theorem dX7_errorPosition_0 : decode cX7_errorPosition 0 = .ok (.aload_n 0, 1) := by decide +kernel
theorem dX7_errorPosition_1 : decode cX7_errorPosition 1 = .ok (.getfield 60, 3) := by decide +kernel
theorem dX7_errorPosition_4 : decode cX7_errorPosition 4 = .ok (.iconst (-1), 1) := by decide +kernel
theorem dX7_errorPosition_5 : decode cX7_errorPosition 5 = .ok (.if_icmp .ne 14, 3) := by decide +kernel
theorem dX7_errorPosition_8 : decode cX7_errorPosition 8 = .ok (.new 164, 3) := by decide +kernel
theorem dX7_errorPosition_11 : decode cX7_errorPosition 11 = .ok (.dup, 1) := by decide +kernel
theorem dX7_errorPosition_12 : decode cX7_errorPosition 12 = .ok (.ldc_w 268, 3) := by decide +kernel
theorem dX7_errorPosition_15 : decode cX7_errorPosition 15 = .ok (.invokespecial 168, 3) := by decide +kernel
theorem dX7_errorPosition_18 : decode cX7_errorPosition 18 = .ok (.athrow, 1) := by decide +kernel
theorem dX7_errorPosition_19 : decode cX7_errorPosition 19 = .ok (.aload_n 0, 1) := by decide +kernel
theorem dX7_errorPosition_20 : decode cX7_errorPosition 20 = .ok (.getfield 60, 3) := by decide +kernel
theorem dX7_errorPosition_23 : decode cX7_errorPosition 23 = .ok (.ireturn, 1) := by decide +kernel
theorem dX7_failedCommand_0 : decode cX7_failedCommand 0 = .ok (.aload_n 0, 1) := by decide +kernel
theorem dX7_failedCommand_1 : decode cX7_failedCommand 1 = .ok (.getfield 64, 3) := by decide +kernel
theorem dX7_failedCommand_4 : decode cX7_failedCommand 4 = .ok (.iconst (-1), 1) := by decide +kernel
theorem dX7_failedCommand_5 : decode cX7_failedCommand 5 = .ok (.if_icmp .ne 14, 3) := by decide +kernel
theorem dX7_failedCommand_8 : decode cX7_failedCommand 8 = .ok (.new 164, 3) := by decide +kernel
theorem dX7_failedCommand_11 : decode cX7_failedCommand 11 = .ok (.dup, 1) := by decide +kernel
theorem dX7_failedCommand_12 : decode cX7_failedCommand 12 = .ok (.ldc_w 270, 3) := by decide +kernel
theorem dX7_failedCommand_15 : decode cX7_failedCommand 15 = .ok (.invokespecial 168, 3) := by decide +kernel
theorem dX7_failedCommand_18 : decode cX7_failedCommand 18 = .ok (.athrow, 1) := by decide +kernel
theorem dX7_failedCommand_19 : decode cX7_failedCommand 19 = .ok (.aload_n 0, 1) := by decide +kernel
theorem dX7_failedCommand_20 : decode cX7_failedCommand 20 = .ok (.getfield 64, 3) := by decide +kernel
theorem dX7_failedCommand_23 : decode cX7_failedCommand 23 = .ok (.ireturn, 1) := by decide +kernel
theorem dX7_undo_0 : decode cX7_undo 0 = .ok (.aload_n 0, 1) := by decide +kernel
theorem dX7_undo_1 : decode cX7_undo 1 = .ok (.getfield 25, 3) := by decide +kernel
theorem dX7_undo_4 : decode cX7_undo 4 = .ok (.getfield 272, 3) := by decide +kernel
theorem dX7_undo_7 : decode cX7_undo 7 = .ok (.ifCond .ne 14, 3) := by decide +kernel
theorem dX7_undo_10 : decode cX7_undo 10 = .ok (.new 232, 3) := by decide +kernel
theorem dX7_undo_13 : decode cX7_undo 13 = .ok (.dup, 1) := by decide +kernel
theorem dX7_undo_14 : decode cX7_undo 14 = .ok (.ldc_w 273, 3) := by decide +kernel
theorem dX7_undo_17 : decode cX7_undo 17 = .ok (.invokespecial 236, 3) := by decide +kernel
theorem dX7_undo_20 : decode cX7_undo 20 = .ok (.athrow, 1) := by decide +kernel
theorem dX7_undo_21 : decode cX7_undo 21 = .ok (.aload_n 0, 1) := by decide +kernel
theorem dX7_undo_22 : decode cX7_undo 22 = .ok (.getfield 25, 3) := by decide +kernel
theorem dX7_undo_25 : decode cX7_undo 25 = .ok (.aload_n 0, 1) := by decide +kernel
theorem dX7_undo_26 : decode cX7_undo 26 = .ok (.getfield 10, 3) := by decide +kernel
theorem dX7_undo_29 : decode cX7_undo 29 = .ok (.invokevirtual 275, 3) := by decide +kernel
theorem dX7_undo_32 : decode cX7_undo 32 = .ok (.aload_n 0, 1) := by decide +kernel
theorem dX7_undo_33 : decode cX7_undo 33 = .ok (.getfield 25, 3) := by decide +kernel
theorem dX7_undo_36 : decode cX7_undo 36 = .ok (.getfield 272, 3) := by decide +kernel
theorem dX7_undo_39 : decode cX7_undo 39 = .ok (.ireturn, 1) := by decide +kernel
theorem dX7_save_0 : decode cX7_save 0 = .ok (.aload_n 0, 1) := by decide +kernel
theorem dX7_save_1 : decode cX7_save 1 = .ok (.getfield 19, 3) := by decide +kernel
theorem dX7_save_4 : decode cX7_save 4 = .ok (.aload_n 0, 1) := by decide +kernel
theorem dX7_save_5 : decode cX7_save 5 = .ok (.getfield 10, 3) := by decide +kernel
theorem dX7_save_8 : decode cX7_save 8 = .ok (.invokevirtual 245, 3) := by decide +kernel
theorem dX7_save_11 : decode cX7_save 11 = .ok (.aload_n 0, 1) := by decide +kernel
theorem dX7_save_12 : decode cX7_save 12 = .ok (.iconst 1, 1) := by decide +kernel
theorem dX7_save_13 : decode cX7_save 13 = .ok (.putfield 278, 3) := by decide +kernel
theorem dX7_save_16 : decode cX7_save 16 = .ok (.aload_n 0, 1) := by decide +kernel
theorem dX7_save_17 : decode cX7_save 17 = .ok (.getfield 10, 3) := by decide +kernel
theorem dX7_save_20 : decode cX7_save 20 = .ok (.getfield 107, 3) := by decide +kernel
theorem dX7_save_23 : decode cX7_save 23 = .ok (.ireturn, 1) := by decide +kernel
theorem dX7_restore_0 : decode cX7_restore 0 = .ok (.aload_n 0, 1) := by decide +kernel
theorem dX7_restore_1 : decode cX7_restore 1 = .ok (.getfield 278, 3) := by decide +kernel
theorem dX7_restore_4 : decode cX7_restore 4 = .ok (.ifCond .ne 14, 3) := by decide +kernel
theorem dX7_restore_7 : decode cX7_restore 7 = .ok (.new 232, 3) := by decide +kernel
theorem dX7_restore_10 : decode cX7_restore 10 = .ok (.dup, 1) := by decide +kernel
theorem dX7_restore_11 : decode cX7_restore 11 = .ok (.ldc_w 282, 3) := by decide +kernel
theorem dX7_restore_14 : decode cX7_restore 14 = .ok (.invokespecial 236, 3) := by decide +kernel
theorem dX7_restore_17 : decode cX7_restore 17 = .ok (.athrow, 1) := by decide +kernel
theorem dX7_restore_18 : decode cX7_restore 18 = .ok (.aload_n 0, 1) := by decide +kernel
theorem dX7_restore_19 : decode cX7_restore 19 = .ok (.getfield 10, 3) := by decide +kernel
theorem dX7_restore_22 : decode cX7_restore 22 = .ok (.aload_n 0, 1) := by decide +kernel
theorem dX7_restore_23 : decode cX7_restore 23 = .ok (.getfield 19, 3) := by decide +kernel
theorem dX7_restore_26 : decode cX7_restore 26 = .ok (.invokevirtual 245, 3) := by decide +kernel
theorem dX7_restore_29 : decode cX7_restore 29 = .ok (.aload_n 0, 1) := by decide +kernel
theorem dX7_restore_30 : decode cX7_restore 30 = .ok (.getfield 25, 3) := by decide +kernel
theorem dX7_restore_33 : decode cX7_restore 33 = .ok (.iconst 0, 1) := by decide +kernel
theorem dX7_restore_34 : decode cX7_restore 34 = .ok (.putfield 272, 3) := by decide +kernel
theorem dX7_restore_37 : decode cX7_restore 37 = .ok (.aload_n 0, 1) := by decide +kernel
theorem dX7_restore_38 : decode cX7_restore 38 = .ok (.getfield 10, 3) := by decide +kernel
theorem dX7_restore_41 : decode cX7_restore 41 = .ok (.getfield 107, 3) := by decide +kernel
theorem dX7_restore_44 : decode cX7_restore 44 = .ok (.ireturn, 1) := by decide +kernel
theorem dX7_modify_0 : decode cX7_modify 0 = .ok (.aload_n 0, 1) := by decide +kernel
theorem dX7_modify_1 : decode cX7_modify 1 = .ok (.iload_n 1, 1) := by decide +kernel
theorem dX7_modify_2 : decode cX7_modify 2 = .ok (.iload_n 2, 1) := by decide +kernel
theorem dX7_modify_3 : decode cX7_modify 3 = .ok (.iload_n 3, 1) := by decide +kernel
theorem dX7_modify_4 : decode cX7_modify 4 = .ok (.iload 4, 2) := by decide +kernel
theorem dX7_modify_6 : decode cX7_modify 6 = .ok (.iload 5, 2) := by decide +kernel
theorem dX7_modify_8 : decode cX7_modify 8 = .ok (.iload 6, 2) := by decide +kernel
theorem dX7_modify_10 : decode cX7_modify 10 = .ok (.invokevirtual 257, 3) := by decide +kernel
theorem dX7_modify_13 : decode cX7_modify 13 = .ok (.invokestatic 151, 3) := by decide +kernel
theorem dX7_modify_16 : decode cX7_modify 16 = .ok (.aload_n 0, 1) := by decide +kernel
theorem dX7_modify_17 : decode cX7_modify 17 = .ok (.getfield 25, 3) := by decide +kernel
theorem dX7_modify_20 : decode cX7_modify 20 = .ok (.aload_n 0, 1) := by decide +kernel
theorem dX7_modify_21 : decode cX7_modify 21 = .ok (.getfield 10, 3) := by decide +kernel
theorem dX7_modify_24 : decode cX7_modify 24 = .ok (.invokevirtual 265, 3) := by decide +kernel
theorem dX7_modify_27 : decode cX7_modify 27 = .ok (.aload_n 0, 1) := by decide +kernel
theorem dX7_modify_28 : decode cX7_modify 28 = .ok (.iload_n 1, 1) := by decide +kernel
theorem dX7_modify_29 : decode cX7_modify 29 = .ok (.iload_n 2, 1) := by decide +kernel
theorem dX7_modify_30 : decode cX7_modify 30 = .ok (.iload_n 3, 1) := by decide +kernel
theorem dX7_modify_31 : decode cX7_modify 31 = .ok (.iload 4, 2) := by decide +kernel
theorem dX7_modify_33 : decode cX7_modify 33 = .ok (.iload 5, 2) := by decide +kernel
theorem dX7_modify_35 : decode cX7_modify 35 = .ok (.iload 6, 2) := by decide +kernel
theorem dX7_modify_37 : decode cX7_modify 37 = .ok (.invokevirtual 262, 3) := by decide +kernel
theorem dX7_modify_40 : decode cX7_modify 40 = .ok (.ireturn, 1) := by decide +kernel
theorem dX7_faultOf_0 : decode cX7_faultOf 0 = .ok (.iload_n 1, 1) := by decide +kernel
theorem dX7_faultOf_1 : decode cX7_faultOf 1 = .ok (.tableswitch 122 0 7 #[47, 57, 66, 82, 122, 92, 102, 112], 47) := by decide +kernel
theorem dX7_faultOf_48 : decode cX7_faultOf 48 = .ok (.aload_n 0, 1) := by decide +kernel
theorem dX7_faultOf_49 : decode cX7_faultOf 49 = .ok (.getfield 10, 3) := by decide +kernel
theorem dX7_faultOf_52 : decode cX7_faultOf 52 = .ok (.iload_n 2, 1) := by decide +kernel
theorem dX7_faultOf_53 : decode cX7_faultOf 53 = .ok (.iload_n 3, 1) := by decide +kernel
theorem dX7_faultOf_54 : decode cX7_faultOf 54 = .ok (.invokevirtual 284, 3) := by decide +kernel
theorem dX7_faultOf_57 : decode cX7_faultOf 57 = .ok (.ireturn, 1) := by decide +kernel
theorem dX7_faultOf_58 : decode cX7_faultOf 58 = .ok (.aload_n 0, 1) := by decide +kernel
theorem dX7_faultOf_59 : decode cX7_faultOf 59 = .ok (.getfield 10, 3) := by decide +kernel
theorem dX7_faultOf_62 : decode cX7_faultOf 62 = .ok (.iload_n 2, 1) := by decide +kernel
theorem dX7_faultOf_63 : decode cX7_faultOf 63 = .ok (.invokevirtual 287, 3) := by decide +kernel
theorem dX7_faultOf_66 : decode cX7_faultOf 66 = .ok (.ireturn, 1) := by decide +kernel
theorem dX7_faultOf_67 : decode cX7_faultOf 67 = .ok (.aload_n 0, 1) := by decide +kernel
theorem dX7_faultOf_68 : decode cX7_faultOf 68 = .ok (.getfield 10, 3) := by decide +kernel
theorem dX7_faultOf_71 : decode cX7_faultOf 71 = .ok (.iload_n 2, 1) := by decide +kernel
theorem dX7_faultOf_72 : decode cX7_faultOf 72 = .ok (.iload_n 3, 1) := by decide +kernel
theorem dX7_faultOf_73 : decode cX7_faultOf 73 = .ok (.iload 4, 2) := by decide +kernel
theorem dX7_faultOf_75 : decode cX7_faultOf 75 = .ok (.iload 5, 2) := by decide +kernel
theorem dX7_faultOf_77 : decode cX7_faultOf 77 = .ok (.iload 6, 2) := by decide +kernel
theorem dX7_faultOf_79 : decode cX7_faultOf 79 = .ok (.invokevirtual 290, 3) := by decide +kernel
theorem dX7_faultOf_82 : decode cX7_faultOf 82 = .ok (.ireturn, 1) := by decide +kernel
theorem dX7_faultOf_83 : decode cX7_faultOf 83 = .ok (.aload_n 0, 1) := by decide +kernel
theorem dX7_faultOf_84 : decode cX7_faultOf 84 = .ok (.getfield 10, 3) := by decide +kernel
theorem dX7_faultOf_87 : decode cX7_faultOf 87 = .ok (.iload_n 2, 1) := by decide +kernel
theorem dX7_faultOf_88 : decode cX7_faultOf 88 = .ok (.iload_n 3, 1) := by decide +kernel
theorem dX7_faultOf_89 : decode cX7_faultOf 89 = .ok (.invokevirtual 294, 3) := by decide +kernel
theorem dX7_faultOf_92 : decode cX7_faultOf 92 = .ok (.ireturn, 1) := by decide +kernel
theorem dX7_faultOf_93 : decode cX7_faultOf 93 = .ok (.aload_n 0, 1) := by decide +kernel
theorem dX7_faultOf_94 : decode cX7_faultOf 94 = .ok (.getfield 10, 3) := by decide +kernel
theorem dX7_faultOf_97 : decode cX7_faultOf 97 = .ok (.iload_n 2, 1) := by decide +kernel
theorem dX7_faultOf_98 : decode cX7_faultOf 98 = .ok (.iload_n 3, 1) := by decide +kernel
theorem dX7_faultOf_99 : decode cX7_faultOf 99 = .ok (.invokevirtual 297, 3) := by decide +kernel
theorem dX7_faultOf_102 : decode cX7_faultOf 102 = .ok (.ireturn, 1) := by decide +kernel
theorem dX7_faultOf_103 : decode cX7_faultOf 103 = .ok (.aload_n 0, 1) := by decide +kernel
theorem dX7_faultOf_104 : decode cX7_faultOf 104 = .ok (.getfield 10, 3) := by decide +kernel
theorem dX7_faultOf_107 : decode cX7_faultOf 107 = .ok (.iload_n 2, 1) := by decide +kernel
theorem dX7_faultOf_108 : decode cX7_faultOf 108 = .ok (.iload_n 3, 1) := by decide +kernel
theorem dX7_faultOf_109 : decode cX7_faultOf 109 = .ok (.invokevirtual 300, 3) := by decide +kernel
theorem dX7_faultOf_112 : decode cX7_faultOf 112 = .ok (.ireturn, 1) := by decide +kernel
theorem dX7_faultOf_113 : decode cX7_faultOf 113 = .ok (.aload_n 0, 1) := by decide +kernel
theorem dX7_faultOf_114 : decode cX7_faultOf 114 = .ok (.getfield 10, 3) := by decide +kernel
theorem dX7_faultOf_117 : decode cX7_faultOf 117 = .ok (.iload_n 2, 1) := by decide +kernel
theorem dX7_faultOf_118 : decode cX7_faultOf 118 = .ok (.iload_n 3, 1) := by decide +kernel
theorem dX7_faultOf_119 : decode cX7_faultOf 119 = .ok (.invokevirtual 300, 3) := by decide +kernel
theorem dX7_faultOf_122 : decode cX7_faultOf 122 = .ok (.ireturn, 1) := by decide +kernel
theorem dX7_faultOf_123 : decode cX7_faultOf 123 = .ok (.iconst 0, 1) := by decide +kernel
theorem dX7_faultOf_124 : decode cX7_faultOf 124 = .ok (.ireturn, 1) := by decide +kernel
theorem dX7_perform_0 : decode cX7_perform 0 = .ok (.iload_n 1, 1) := by decide +kernel
theorem dX7_perform_1 : decode cX7_perform 1 = .ok (.tableswitch 127 0 7 #[47, 57, 66, 82, 92, 97, 107, 117], 47) := by decide +kernel
theorem dX7_perform_48 : decode cX7_perform 48 = .ok (.aload_n 0, 1) := by decide +kernel
theorem dX7_perform_49 : decode cX7_perform 49 = .ok (.getfield 10, 3) := by decide +kernel
theorem dX7_perform_52 : decode cX7_perform 52 = .ok (.iload_n 2, 1) := by decide +kernel
theorem dX7_perform_53 : decode cX7_perform 53 = .ok (.iload_n 3, 1) := by decide +kernel
theorem dX7_perform_54 : decode cX7_perform 54 = .ok (.invokevirtual 305, 3) := by decide +kernel
theorem dX7_perform_57 : decode cX7_perform 57 = .ok (.ireturn, 1) := by decide +kernel
theorem dX7_perform_58 : decode cX7_perform 58 = .ok (.aload_n 0, 1) := by decide +kernel
theorem dX7_perform_59 : decode cX7_perform 59 = .ok (.getfield 10, 3) := by decide +kernel
theorem dX7_perform_62 : decode cX7_perform 62 = .ok (.iload_n 2, 1) := by decide +kernel
theorem dX7_perform_63 : decode cX7_perform 63 = .ok (.invokevirtual 308, 3) := by decide +kernel
theorem dX7_perform_66 : decode cX7_perform 66 = .ok (.ireturn, 1) := by decide +kernel
theorem dX7_perform_67 : decode cX7_perform 67 = .ok (.aload_n 0, 1) := by decide +kernel
theorem dX7_perform_68 : decode cX7_perform 68 = .ok (.getfield 10, 3) := by decide +kernel
theorem dX7_perform_71 : decode cX7_perform 71 = .ok (.iload_n 2, 1) := by decide +kernel
theorem dX7_perform_72 : decode cX7_perform 72 = .ok (.iload_n 3, 1) := by decide +kernel
theorem dX7_perform_73 : decode cX7_perform 73 = .ok (.iload 4, 2) := by decide +kernel
theorem dX7_perform_75 : decode cX7_perform 75 = .ok (.iload 5, 2) := by decide +kernel
theorem dX7_perform_77 : decode cX7_perform 77 = .ok (.iload 6, 2) := by decide +kernel
theorem dX7_perform_79 : decode cX7_perform 79 = .ok (.invokevirtual 311, 3) := by decide +kernel
theorem dX7_perform_82 : decode cX7_perform 82 = .ok (.ireturn, 1) := by decide +kernel
theorem dX7_perform_83 : decode cX7_perform 83 = .ok (.aload_n 0, 1) := by decide +kernel
theorem dX7_perform_84 : decode cX7_perform 84 = .ok (.getfield 10, 3) := by decide +kernel
theorem dX7_perform_87 : decode cX7_perform 87 = .ok (.iload_n 2, 1) := by decide +kernel
theorem dX7_perform_88 : decode cX7_perform 88 = .ok (.iload_n 3, 1) := by decide +kernel
theorem dX7_perform_89 : decode cX7_perform 89 = .ok (.invokevirtual 314, 3) := by decide +kernel
theorem dX7_perform_92 : decode cX7_perform 92 = .ok (.ireturn, 1) := by decide +kernel
theorem dX7_perform_93 : decode cX7_perform 93 = .ok (.aload_n 0, 1) := by decide +kernel
theorem dX7_perform_94 : decode cX7_perform 94 = .ok (.invokevirtual 317, 3) := by decide +kernel
theorem dX7_perform_97 : decode cX7_perform 97 = .ok (.ireturn, 1) := by decide +kernel
theorem dX7_perform_98 : decode cX7_perform 98 = .ok (.aload_n 0, 1) := by decide +kernel
theorem dX7_perform_99 : decode cX7_perform 99 = .ok (.getfield 10, 3) := by decide +kernel
theorem dX7_perform_102 : decode cX7_perform 102 = .ok (.iload_n 2, 1) := by decide +kernel
theorem dX7_perform_103 : decode cX7_perform 103 = .ok (.iload_n 3, 1) := by decide +kernel
theorem dX7_perform_104 : decode cX7_perform 104 = .ok (.invokevirtual 320, 3) := by decide +kernel
theorem dX7_perform_107 : decode cX7_perform 107 = .ok (.ireturn, 1) := by decide +kernel
theorem dX7_perform_108 : decode cX7_perform 108 = .ok (.aload_n 0, 1) := by decide +kernel
theorem dX7_perform_109 : decode cX7_perform 109 = .ok (.getfield 10, 3) := by decide +kernel
theorem dX7_perform_112 : decode cX7_perform 112 = .ok (.iload_n 2, 1) := by decide +kernel
theorem dX7_perform_113 : decode cX7_perform 113 = .ok (.iload_n 3, 1) := by decide +kernel
theorem dX7_perform_114 : decode cX7_perform 114 = .ok (.invokevirtual 323, 3) := by decide +kernel
theorem dX7_perform_117 : decode cX7_perform 117 = .ok (.ireturn, 1) := by decide +kernel
theorem dX7_perform_118 : decode cX7_perform 118 = .ok (.aload_n 0, 1) := by decide +kernel
theorem dX7_perform_119 : decode cX7_perform 119 = .ok (.getfield 10, 3) := by decide +kernel
theorem dX7_perform_122 : decode cX7_perform 122 = .ok (.iload_n 2, 1) := by decide +kernel
theorem dX7_perform_123 : decode cX7_perform 123 = .ok (.iload_n 3, 1) := by decide +kernel
theorem dX7_perform_124 : decode cX7_perform 124 = .ok (.invokevirtual 326, 3) := by decide +kernel
theorem dX7_perform_127 : decode cX7_perform 127 = .ok (.ireturn, 1) := by decide +kernel
theorem dX7_perform_128 : decode cX7_perform 128 = .ok (.iconst 0, 1) := by decide +kernel
theorem dX7_perform_129 : decode cX7_perform 129 = .ok (.ireturn, 1) := by decide +kernel
theorem dX7_passNight_0 : decode cX7_passNight 0 = .ok (.aload_n 0, 1) := by decide +kernel
theorem dX7_passNight_1 : decode cX7_passNight 1 = .ok (.getfield 10, 3) := by decide +kernel
theorem dX7_passNight_4 : decode cX7_passNight 4 = .ok (.invokevirtual 329, 3) := by decide +kernel
theorem dX7_passNight_7 : decode cX7_passNight 7 = .ok (.aload_n 0, 1) := by decide +kernel
theorem dX7_passNight_8 : decode cX7_passNight 8 = .ok (.getfield 10, 3) := by decide +kernel
theorem dX7_passNight_11 : decode cX7_passNight 11 = .ok (.invokevirtual 332, 3) := by decide +kernel
theorem dX7_passNight_14 : decode cX7_passNight 14 = .ok (.aload_n 0, 1) := by decide +kernel
theorem dX7_passNight_15 : decode cX7_passNight 15 = .ok (.getfield 10, 3) := by decide +kernel
theorem dX7_passNight_18 : decode cX7_passNight 18 = .ok (.invokevirtual 335, 3) := by decide +kernel
theorem dX7_passNight_21 : decode cX7_passNight 21 = .ok (.istore_n 1, 1) := by decide +kernel
theorem dX7_passNight_22 : decode cX7_passNight 22 = .ok (.iconst 0, 1) := by decide +kernel
theorem dX7_passNight_23 : decode cX7_passNight 23 = .ok (.istore_n 2, 1) := by decide +kernel
theorem dX7_passNight_24 : decode cX7_passNight 24 = .ok (.iload_n 2, 1) := by decide +kernel
theorem dX7_passNight_25 : decode cX7_passNight 25 = .ok (.aload_n 0, 1) := by decide +kernel
theorem dX7_passNight_26 : decode cX7_passNight 26 = .ok (.getfield 10, 3) := by decide +kernel
theorem dX7_passNight_29 : decode cX7_passNight 29 = .ok (.getfield 90, 3) := by decide +kernel
theorem dX7_passNight_32 : decode cX7_passNight 32 = .ok (.if_icmp .ge 22, 3) := by decide +kernel
theorem dX7_passNight_35 : decode cX7_passNight 35 = .ok (.iload_n 1, 1) := by decide +kernel
theorem dX7_passNight_36 : decode cX7_passNight 36 = .ok (.iload_n 2, 1) := by decide +kernel
theorem dX7_passNight_37 : decode cX7_passNight 37 = .ok (.ishr, 1) := by decide +kernel
theorem dX7_passNight_38 : decode cX7_passNight 38 = .ok (.iconst 1, 1) := by decide +kernel
theorem dX7_passNight_39 : decode cX7_passNight 39 = .ok (.iand, 1) := by decide +kernel
theorem dX7_passNight_40 : decode cX7_passNight 40 = .ok (.ifCond .eq 8, 3) := by decide +kernel
theorem dX7_passNight_43 : decode cX7_passNight 43 = .ok (.aload_n 0, 1) := by decide +kernel
theorem dX7_passNight_44 : decode cX7_passNight 44 = .ok (.iload_n 2, 1) := by decide +kernel
theorem dX7_passNight_45 : decode cX7_passNight 45 = .ok (.invokevirtual 338, 3) := by decide +kernel
theorem dX7_passNight_48 : decode cX7_passNight 48 = .ok (.iinc 2 1, 3) := by decide +kernel
theorem dX7_passNight_51 : decode cX7_passNight 51 = .ok (.goto (-27), 3) := by decide +kernel
theorem dX7_passNight_54 : decode cX7_passNight 54 = .ok (.iload_n 1, 1) := by decide +kernel
theorem dX7_passNight_55 : decode cX7_passNight 55 = .ok (.invokestatic 341, 3) := by decide +kernel
theorem dX7_passNight_58 : decode cX7_passNight 58 = .ok (.ireturn, 1) := by decide +kernel
theorem dX7_carryOutDefault_0 : decode cX7_carryOutDefault 0 = .ok (.aload_n 0, 1) := by decide +kernel
theorem dX7_carryOutDefault_1 : decode cX7_carryOutDefault 1 = .ok (.getfield 39, 3) := by decide +kernel
theorem dX7_carryOutDefault_4 : decode cX7_carryOutDefault 4 = .ok (.aload_n 0, 1) := by decide +kernel
theorem dX7_carryOutDefault_5 : decode cX7_carryOutDefault 5 = .ok (.getfield 10, 3) := by decide +kernel
theorem dX7_carryOutDefault_8 : decode cX7_carryOutDefault 8 = .ok (.iload_n 1, 1) := by decide +kernel
theorem dX7_carryOutDefault_9 : decode cX7_carryOutDefault 9 = .ok (.invokevirtual 346, 3) := by decide +kernel
theorem dX7_carryOutDefault_12 : decode cX7_carryOutDefault 12 = .ok (.aload_n 0, 1) := by decide +kernel
theorem dX7_carryOutDefault_13 : decode cX7_carryOutDefault 13 = .ok (.getfield 39, 3) := by decide +kernel
theorem dX7_carryOutDefault_16 : decode cX7_carryOutDefault 16 = .ok (.invokevirtual 349, 3) := by decide +kernel
theorem dX7_carryOutDefault_19 : decode cX7_carryOutDefault 19 = .ok (.ifCond .eq 58, 3) := by decide +kernel
theorem dX7_carryOutDefault_22 : decode cX7_carryOutDefault 22 = .ok (.aload_n 0, 1) := by decide +kernel
theorem dX7_carryOutDefault_23 : decode cX7_carryOutDefault 23 = .ok (.getfield 39, 3) := by decide +kernel
theorem dX7_carryOutDefault_26 : decode cX7_carryOutDefault 26 = .ok (.aload_n 0, 1) := by decide +kernel
theorem dX7_carryOutDefault_27 : decode cX7_carryOutDefault 27 = .ok (.getfield 10, 3) := by decide +kernel
theorem dX7_carryOutDefault_30 : decode cX7_carryOutDefault 30 = .ok (.invokevirtual 155, 3) := by decide +kernel
theorem dX7_carryOutDefault_33 : decode cX7_carryOutDefault 33 = .ok (.pop, 1) := by decide +kernel
theorem dX7_carryOutDefault_34 : decode cX7_carryOutDefault 34 = .ok (.iconst 0, 1) := by decide +kernel
theorem dX7_carryOutDefault_35 : decode cX7_carryOutDefault 35 = .ok (.istore_n 2, 1) := by decide +kernel
theorem dX7_carryOutDefault_36 : decode cX7_carryOutDefault 36 = .ok (.iload_n 2, 1) := by decide +kernel
theorem dX7_carryOutDefault_37 : decode cX7_carryOutDefault 37 = .ok (.aload_n 0, 1) := by decide +kernel
theorem dX7_carryOutDefault_38 : decode cX7_carryOutDefault 38 = .ok (.getfield 10, 3) := by decide +kernel
theorem dX7_carryOutDefault_41 : decode cX7_carryOutDefault 41 = .ok (.getfield 73, 3) := by decide +kernel
theorem dX7_carryOutDefault_44 : decode cX7_carryOutDefault 44 = .ok (.if_icmp .ge 33, 3) := by decide +kernel
theorem dX7_carryOutDefault_47 : decode cX7_carryOutDefault 47 = .ok (.aload_n 0, 1) := by decide +kernel
theorem dX7_carryOutDefault_48 : decode cX7_carryOutDefault 48 = .ok (.getfield 39, 3) := by decide +kernel
theorem dX7_carryOutDefault_51 : decode cX7_carryOutDefault 51 = .ok (.iload_n 2, 1) := by decide +kernel
theorem dX7_carryOutDefault_52 : decode cX7_carryOutDefault 52 = .ok (.invokevirtual 161, 3) := by decide +kernel
theorem dX7_carryOutDefault_55 : decode cX7_carryOutDefault 55 = .ok (.istore_n 3, 1) := by decide +kernel
theorem dX7_carryOutDefault_56 : decode cX7_carryOutDefault 56 = .ok (.iload_n 3, 1) := by decide +kernel
theorem dX7_carryOutDefault_57 : decode cX7_carryOutDefault 57 = .ok (.iconst (-1), 1) := by decide +kernel
theorem dX7_carryOutDefault_58 : decode cX7_carryOutDefault 58 = .ok (.if_icmp .eq 13, 3) := by decide +kernel
theorem dX7_carryOutDefault_61 : decode cX7_carryOutDefault 61 = .ok (.aload_n 0, 1) := by decide +kernel
theorem dX7_carryOutDefault_62 : decode cX7_carryOutDefault 62 = .ok (.getfield 10, 3) := by decide +kernel
theorem dX7_carryOutDefault_65 : decode cX7_carryOutDefault 65 = .ok (.iload_n 1, 1) := by decide +kernel
theorem dX7_carryOutDefault_66 : decode cX7_carryOutDefault 66 = .ok (.iload_n 3, 1) := by decide +kernel
theorem dX7_carryOutDefault_67 : decode cX7_carryOutDefault 67 = .ok (.iload_n 2, 1) := by decide +kernel
theorem dX7_carryOutDefault_68 : decode cX7_carryOutDefault 68 = .ok (.invokevirtual 352, 3) := by decide +kernel
theorem dX7_carryOutDefault_71 : decode cX7_carryOutDefault 71 = .ok (.iinc 2 1, 3) := by decide +kernel
theorem dX7_carryOutDefault_74 : decode cX7_carryOutDefault 74 = .ok (.goto (-38), 3) := by decide +kernel
theorem dX7_carryOutDefault_77 : decode cX7_carryOutDefault 77 = .ok (.aload_n 0, 1) := by decide +kernel
theorem dX7_carryOutDefault_78 : decode cX7_carryOutDefault 78 = .ok (.getfield 10, 3) := by decide +kernel
theorem dX7_carryOutDefault_81 : decode cX7_carryOutDefault 81 = .ok (.iload_n 1, 1) := by decide +kernel
theorem dX7_carryOutDefault_82 : decode cX7_carryOutDefault 82 = .ok (.invokevirtual 356, 3) := by decide +kernel
theorem dX7_carryOutDefault_85 : decode cX7_carryOutDefault 85 = .ok (.aload_n 0, 1) := by decide +kernel
theorem dX7_carryOutDefault_86 : decode cX7_carryOutDefault 86 = .ok (.getfield 10, 3) := by decide +kernel
theorem dX7_carryOutDefault_89 : decode cX7_carryOutDefault 89 = .ok (.iload_n 1, 1) := by decide +kernel
theorem dX7_carryOutDefault_90 : decode cX7_carryOutDefault 90 = .ok (.invokevirtual 359, 3) := by decide +kernel
theorem dX7_carryOutDefault_93 : decode cX7_carryOutDefault 93 = .ok (.return_, 1) := by decide +kernel
theorem dX7_prepareTakeOver_0 : decode cX7_prepareTakeOver 0 = .ok (.iload_n 1, 1) := by decide +kernel
theorem dX7_prepareTakeOver_1 : decode cX7_prepareTakeOver 1 = .ok (.aload_n 0, 1) := by decide +kernel
theorem dX7_prepareTakeOver_2 : decode cX7_prepareTakeOver 2 = .ok (.getfield 10, 3) := by decide +kernel
theorem dX7_prepareTakeOver_5 : decode cX7_prepareTakeOver 5 = .ok (.getfield 90, 3) := by decide +kernel
theorem dX7_prepareTakeOver_8 : decode cX7_prepareTakeOver 8 = .ok (.invokestatic 362, 3) := by decide +kernel
theorem dX7_prepareTakeOver_11 : decode cX7_prepareTakeOver 11 = .ok (.ifCond .ne 5, 3) := by decide +kernel
theorem dX7_prepareTakeOver_14 : decode cX7_prepareTakeOver 14 = .ok (.iconst 1, 1) := by decide +kernel
theorem dX7_prepareTakeOver_15 : decode cX7_prepareTakeOver 15 = .ok (.ireturn, 1) := by decide +kernel
theorem dX7_prepareTakeOver_16 : decode cX7_prepareTakeOver 16 = .ok (.aload_n 0, 1) := by decide +kernel
theorem dX7_prepareTakeOver_17 : decode cX7_prepareTakeOver 17 = .ok (.getfield 10, 3) := by decide +kernel
theorem dX7_prepareTakeOver_20 : decode cX7_prepareTakeOver 20 = .ok (.getfield 96, 3) := by decide +kernel
theorem dX7_prepareTakeOver_23 : decode cX7_prepareTakeOver 23 = .ok (.iload_n 1, 1) := by decide +kernel
theorem dX7_prepareTakeOver_24 : decode cX7_prepareTakeOver 24 = .ok (.iaload, 1) := by decide +kernel
theorem dX7_prepareTakeOver_25 : decode cX7_prepareTakeOver 25 = .ok (.iconst 2, 1) := by decide +kernel
theorem dX7_prepareTakeOver_26 : decode cX7_prepareTakeOver 26 = .ok (.if_icmp .ne 5, 3) := by decide +kernel
theorem dX7_prepareTakeOver_29 : decode cX7_prepareTakeOver 29 = .ok (.iconst 3, 1) := by decide +kernel
theorem dX7_prepareTakeOver_30 : decode cX7_prepareTakeOver 30 = .ok (.ireturn, 1) := by decide +kernel
theorem dX7_prepareTakeOver_31 : decode cX7_prepareTakeOver 31 = .ok (.aload_n 0, 1) := by decide +kernel
theorem dX7_prepareTakeOver_32 : decode cX7_prepareTakeOver 32 = .ok (.getfield 39, 3) := by decide +kernel
theorem dX7_prepareTakeOver_35 : decode cX7_prepareTakeOver 35 = .ok (.aload_n 0, 1) := by decide +kernel
theorem dX7_prepareTakeOver_36 : decode cX7_prepareTakeOver 36 = .ok (.getfield 10, 3) := by decide +kernel
theorem dX7_prepareTakeOver_39 : decode cX7_prepareTakeOver 39 = .ok (.iload_n 1, 1) := by decide +kernel
theorem dX7_prepareTakeOver_40 : decode cX7_prepareTakeOver 40 = .ok (.invokevirtual 346, 3) := by decide +kernel
theorem dX7_prepareTakeOver_43 : decode cX7_prepareTakeOver 43 = .ok (.aload_n 0, 1) := by decide +kernel
theorem dX7_prepareTakeOver_44 : decode cX7_prepareTakeOver 44 = .ok (.getfield 39, 3) := by decide +kernel
theorem dX7_prepareTakeOver_47 : decode cX7_prepareTakeOver 47 = .ok (.invokevirtual 349, 3) := by decide +kernel
theorem dX7_prepareTakeOver_50 : decode cX7_prepareTakeOver 50 = .ok (.ifCond .eq 7, 3) := by decide +kernel
theorem dX7_prepareTakeOver_53 : decode cX7_prepareTakeOver 53 = .ok (.iconst 0, 1) := by decide +kernel
theorem dX7_prepareTakeOver_54 : decode cX7_prepareTakeOver 54 = .ok (.goto 4, 3) := by decide +kernel
theorem dX7_prepareTakeOver_57 : decode cX7_prepareTakeOver 57 = .ok (.iconst 4, 1) := by decide +kernel
theorem dX7_prepareTakeOver_58 : decode cX7_prepareTakeOver 58 = .ok (.ireturn, 1) := by decide +kernel
theorem dX7_marginsAgree_0 : decode cX7_marginsAgree 0 = .ok (.iconst 0, 1) := by decide +kernel
theorem dX7_marginsAgree_1 : decode cX7_marginsAgree 1 = .ok (.istore_n 1, 1) := by decide +kernel
theorem dX7_marginsAgree_2 : decode cX7_marginsAgree 2 = .ok (.iload_n 1, 1) := by decide +kernel
theorem dX7_marginsAgree_3 : decode cX7_marginsAgree 3 = .ok (.aload_n 0, 1) := by decide +kernel
theorem dX7_marginsAgree_4 : decode cX7_marginsAgree 4 = .ok (.getfield 10, 3) := by decide +kernel
theorem dX7_marginsAgree_7 : decode cX7_marginsAgree 7 = .ok (.getfield 90, 3) := by decide +kernel
theorem dX7_marginsAgree_10 : decode cX7_marginsAgree 10 = .ok (.if_icmp .ge 30, 3) := by decide +kernel
theorem dX7_marginsAgree_13 : decode cX7_marginsAgree 13 = .ok (.aload_n 0, 1) := by decide +kernel
theorem dX7_marginsAgree_14 : decode cX7_marginsAgree 14 = .ok (.getfield 10, 3) := by decide +kernel
theorem dX7_marginsAgree_17 : decode cX7_marginsAgree 17 = .ok (.iload_n 1, 1) := by decide +kernel
theorem dX7_marginsAgree_18 : decode cX7_marginsAgree 18 = .ok (.invokevirtual 128, 3) := by decide +kernel
theorem dX7_marginsAgree_21 : decode cX7_marginsAgree 21 = .ok (.aload_n 0, 1) := by decide +kernel
theorem dX7_marginsAgree_22 : decode cX7_marginsAgree 22 = .ok (.getfield 10, 3) := by decide +kernel
theorem dX7_marginsAgree_25 : decode cX7_marginsAgree 25 = .ok (.iload_n 1, 1) := by decide +kernel
theorem dX7_marginsAgree_26 : decode cX7_marginsAgree 26 = .ok (.invokevirtual 131, 3) := by decide +kernel
theorem dX7_marginsAgree_29 : decode cX7_marginsAgree 29 = .ok (.if_icmp .eq 5, 3) := by decide +kernel
theorem dX7_marginsAgree_32 : decode cX7_marginsAgree 32 = .ok (.iconst 0, 1) := by decide +kernel
theorem dX7_marginsAgree_33 : decode cX7_marginsAgree 33 = .ok (.ireturn, 1) := by decide +kernel
theorem dX7_marginsAgree_34 : decode cX7_marginsAgree 34 = .ok (.iinc 1 1, 3) := by decide +kernel
theorem dX7_marginsAgree_37 : decode cX7_marginsAgree 37 = .ok (.goto (-35), 3) := by decide +kernel
theorem dX7_marginsAgree_40 : decode cX7_marginsAgree 40 = .ok (.iconst 1, 1) := by decide +kernel
theorem dX7_marginsAgree_41 : decode cX7_marginsAgree 41 = .ok (.ireturn, 1) := by decide +kernel
theorem dX7_paymentsAgree_0 : decode cX7_paymentsAgree 0 = .ok (.aload_n 0, 1) := by decide +kernel
theorem dX7_paymentsAgree_1 : decode cX7_paymentsAgree 1 = .ok (.getfield 32, 3) := by decide +kernel
theorem dX7_paymentsAgree_4 : decode cX7_paymentsAgree 4 = .ok (.aload_n 0, 1) := by decide +kernel
theorem dX7_paymentsAgree_5 : decode cX7_paymentsAgree 5 = .ok (.getfield 10, 3) := by decide +kernel
theorem dX7_paymentsAgree_8 : decode cX7_paymentsAgree 8 = .ok (.invokevirtual 137, 3) := by decide +kernel
theorem dX7_paymentsAgree_11 : decode cX7_paymentsAgree 11 = .ok (.aload_n 0, 1) := by decide +kernel
theorem dX7_paymentsAgree_12 : decode cX7_paymentsAgree 12 = .ok (.getfield 32, 3) := by decide +kernel
theorem dX7_paymentsAgree_15 : decode cX7_paymentsAgree 15 = .ok (.invokevirtual 141, 3) := by decide +kernel
theorem dX7_paymentsAgree_18 : decode cX7_paymentsAgree 18 = .ok (.aload_n 0, 1) := by decide +kernel
theorem dX7_paymentsAgree_19 : decode cX7_paymentsAgree 19 = .ok (.getfield 32, 3) := by decide +kernel
theorem dX7_paymentsAgree_22 : decode cX7_paymentsAgree 22 = .ok (.invokevirtual 145, 3) := by decide +kernel
theorem dX7_paymentsAgree_25 : decode cX7_paymentsAgree 25 = .ok (.if_icmp .ne 7, 3) := by decide +kernel
theorem dX7_paymentsAgree_28 : decode cX7_paymentsAgree 28 = .ok (.iconst 1, 1) := by decide +kernel
theorem dX7_paymentsAgree_29 : decode cX7_paymentsAgree 29 = .ok (.goto 4, 3) := by decide +kernel
theorem dX7_paymentsAgree_32 : decode cX7_paymentsAgree 32 = .ok (.iconst 0, 1) := by decide +kernel
theorem dX7_paymentsAgree_33 : decode cX7_paymentsAgree 33 = .ok (.ireturn, 1) := by decide +kernel
theorem dX7_leastMarginsAgree_0 : decode cX7_leastMarginsAgree 0 = .ok (.iconst 0, 1) := by decide +kernel
theorem dX7_leastMarginsAgree_1 : decode cX7_leastMarginsAgree 1 = .ok (.istore_n 1, 1) := by decide +kernel
theorem dX7_leastMarginsAgree_2 : decode cX7_leastMarginsAgree 2 = .ok (.iload_n 1, 1) := by decide +kernel
theorem dX7_leastMarginsAgree_3 : decode cX7_leastMarginsAgree 3 = .ok (.aload_n 0, 1) := by decide +kernel
theorem dX7_leastMarginsAgree_4 : decode cX7_leastMarginsAgree 4 = .ok (.getfield 10, 3) := by decide +kernel
theorem dX7_leastMarginsAgree_7 : decode cX7_leastMarginsAgree 7 = .ok (.getfield 90, 3) := by decide +kernel
theorem dX7_leastMarginsAgree_10 : decode cX7_leastMarginsAgree 10 = .ok (.if_icmp .ge 44, 3) := by decide +kernel
theorem dX7_leastMarginsAgree_13 : decode cX7_leastMarginsAgree 13 = .ok (.aload_n 0, 1) := by decide +kernel
theorem dX7_leastMarginsAgree_14 : decode cX7_leastMarginsAgree 14 = .ok (.iload_n 1, 1) := by decide +kernel
theorem dX7_leastMarginsAgree_15 : decode cX7_leastMarginsAgree 15 = .ok (.invokevirtual 148, 3) := by decide +kernel
theorem dX7_leastMarginsAgree_18 : decode cX7_leastMarginsAgree 18 = .ok (.ifCond .ne 30, 3) := by decide +kernel
theorem dX7_leastMarginsAgree_21 : decode cX7_leastMarginsAgree 21 = .ok (.aload_n 0, 1) := by decide +kernel
theorem dX7_leastMarginsAgree_22 : decode cX7_leastMarginsAgree 22 = .ok (.getfield 39, 3) := by decide +kernel
theorem dX7_leastMarginsAgree_25 : decode cX7_leastMarginsAgree 25 = .ok (.aload_n 0, 1) := by decide +kernel
theorem dX7_leastMarginsAgree_26 : decode cX7_leastMarginsAgree 26 = .ok (.getfield 10, 3) := by decide +kernel
theorem dX7_leastMarginsAgree_29 : decode cX7_leastMarginsAgree 29 = .ok (.invokevirtual 155, 3) := by decide +kernel
theorem dX7_leastMarginsAgree_32 : decode cX7_leastMarginsAgree 32 = .ok (.aload_n 0, 1) := by decide +kernel
theorem dX7_leastMarginsAgree_33 : decode cX7_leastMarginsAgree 33 = .ok (.getfield 39, 3) := by decide +kernel
theorem dX7_leastMarginsAgree_36 : decode cX7_leastMarginsAgree 36 = .ok (.aload_n 0, 1) := by decide +kernel
theorem dX7_leastMarginsAgree_37 : decode cX7_leastMarginsAgree 37 = .ok (.getfield 10, 3) := by decide +kernel
theorem dX7_leastMarginsAgree_40 : decode cX7_leastMarginsAgree 40 = .ok (.invokevirtual 159, 3) := by decide +kernel
theorem dX7_leastMarginsAgree_43 : decode cX7_leastMarginsAgree 43 = .ok (.if_icmp .eq 5, 3) := by decide +kernel
theorem dX7_leastMarginsAgree_46 : decode cX7_leastMarginsAgree 46 = .ok (.iconst 0, 1) := by decide +kernel
theorem dX7_leastMarginsAgree_47 : decode cX7_leastMarginsAgree 47 = .ok (.ireturn, 1) := by decide +kernel
theorem dX7_leastMarginsAgree_48 : decode cX7_leastMarginsAgree 48 = .ok (.iinc 1 1, 3) := by decide +kernel
theorem dX7_leastMarginsAgree_51 : decode cX7_leastMarginsAgree 51 = .ok (.goto (-49), 3) := by decide +kernel
theorem dX7_leastMarginsAgree_54 : decode cX7_leastMarginsAgree 54 = .ok (.iconst 1, 1) := by decide +kernel
theorem dX7_leastMarginsAgree_55 : decode cX7_leastMarginsAgree 55 = .ok (.ireturn, 1) := by decide +kernel
theorem dX7_isNumber_0 : decode cX7_isNumber 0 = .ok (.iload_n 0, 1) := by decide +kernel
theorem dX7_isNumber_1 : decode cX7_isNumber 1 = .ok (.ifCond .lt 12, 3) := by decide +kernel
theorem dX7_isNumber_4 : decode cX7_isNumber 4 = .ok (.iload_n 0, 1) := by decide +kernel
theorem dX7_isNumber_5 : decode cX7_isNumber 5 = .ok (.iload_n 1, 1) := by decide +kernel
theorem dX7_isNumber_6 : decode cX7_isNumber 6 = .ok (.if_icmp .ge 7, 3) := by decide +kernel
theorem dX7_isNumber_9 : decode cX7_isNumber 9 = .ok (.iconst 1, 1) := by decide +kernel
theorem dX7_isNumber_10 : decode cX7_isNumber 10 = .ok (.goto 4, 3) := by decide +kernel
theorem dX7_isNumber_13 : decode cX7_isNumber 13 = .ok (.iconst 0, 1) := by decide +kernel
theorem dX7_isNumber_14 : decode cX7_isNumber 14 = .ok (.ireturn, 1) := by decide +kernel
theorem dX7_isWithin_0 : decode cX7_isWithin 0 = .ok (.iload_n 0, 1) := by decide +kernel
theorem dX7_isWithin_1 : decode cX7_isWithin 1 = .ok (.iload_n 1, 1) := by decide +kernel
theorem dX7_isWithin_2 : decode cX7_isWithin 2 = .ok (.if_icmp .lt 12, 3) := by decide +kernel
theorem dX7_isWithin_5 : decode cX7_isWithin 5 = .ok (.iload_n 0, 1) := by decide +kernel
theorem dX7_isWithin_6 : decode cX7_isWithin 6 = .ok (.iload_n 2, 1) := by decide +kernel
theorem dX7_isWithin_7 : decode cX7_isWithin 7 = .ok (.if_icmp .gt 7, 3) := by decide +kernel
theorem dX7_isWithin_10 : decode cX7_isWithin 10 = .ok (.iconst 1, 1) := by decide +kernel
theorem dX7_isWithin_11 : decode cX7_isWithin 11 = .ok (.goto 4, 3) := by decide +kernel
theorem dX7_isWithin_14 : decode cX7_isWithin 14 = .ok (.iconst 0, 1) := by decide +kernel
theorem dX7_isWithin_15 : decode cX7_isWithin 15 = .ok (.ireturn, 1) := by decide +kernel
theorem dX7_needNumber_0 : decode cX7_needNumber 0 = .ok (.iload_n 0, 1) := by decide +kernel
theorem dX7_needNumber_1 : decode cX7_needNumber 1 = .ok (.iload_n 1, 1) := by decide +kernel
theorem dX7_needNumber_2 : decode cX7_needNumber 2 = .ok (.invokestatic 362, 3) := by decide +kernel
theorem dX7_needNumber_5 : decode cX7_needNumber 5 = .ok (.ifCond .ne 14, 3) := by decide +kernel
theorem dX7_needNumber_8 : decode cX7_needNumber 8 = .ok (.new 366, 3) := by decide +kernel
theorem dX7_needNumber_11 : decode cX7_needNumber 11 = .ok (.dup, 1) := by decide +kernel
theorem dX7_needNumber_12 : decode cX7_needNumber 12 = .ok (.ldc_w 368, 3) := by decide +kernel
theorem dX7_needNumber_15 : decode cX7_needNumber 15 = .ok (.invokespecial 370, 3) := by decide +kernel
theorem dX7_needNumber_18 : decode cX7_needNumber 18 = .ok (.athrow, 1) := by decide +kernel
theorem dX7_needNumber_19 : decode cX7_needNumber 19 = .ok (.return_, 1) := by decide +kernel
theorem dX7_raise_0 : decode cX7_raise 0 = .ok (.iload_n 0, 1) := by decide +kernel
theorem dX7_raise_1 : decode cX7_raise 1 = .ok (.tableswitch 75 1 4 #[31, 42, 53, 64], 31) := by decide +kernel
theorem dX7_raise_32 : decode cX7_raise 32 = .ok (.new 366, 3) := by decide +kernel
theorem dX7_raise_35 : decode cX7_raise 35 = .ok (.dup, 1) := by decide +kernel
theorem dX7_raise_36 : decode cX7_raise 36 = .ok (.ldc_w 368, 3) := by decide +kernel
theorem dX7_raise_39 : decode cX7_raise 39 = .ok (.invokespecial 370, 3) := by decide +kernel
theorem dX7_raise_42 : decode cX7_raise 42 = .ok (.athrow, 1) := by decide +kernel
theorem dX7_raise_43 : decode cX7_raise 43 = .ok (.new 227, 3) := by decide +kernel
theorem dX7_raise_46 : decode cX7_raise 46 = .ok (.dup, 1) := by decide +kernel
theorem dX7_raise_47 : decode cX7_raise 47 = .ok (.ldc_w 371, 3) := by decide +kernel
theorem dX7_raise_50 : decode cX7_raise 50 = .ok (.invokespecial 231, 3) := by decide +kernel
theorem dX7_raise_53 : decode cX7_raise 53 = .ok (.athrow, 1) := by decide +kernel
theorem dX7_raise_54 : decode cX7_raise 54 = .ok (.new 232, 3) := by decide +kernel
theorem dX7_raise_57 : decode cX7_raise 57 = .ok (.dup, 1) := by decide +kernel
theorem dX7_raise_58 : decode cX7_raise 58 = .ok (.ldc_w 373, 3) := by decide +kernel
theorem dX7_raise_61 : decode cX7_raise 61 = .ok (.invokespecial 236, 3) := by decide +kernel
theorem dX7_raise_64 : decode cX7_raise 64 = .ok (.athrow, 1) := by decide +kernel
theorem dX7_raise_65 : decode cX7_raise 65 = .ok (.new 375, 3) := by decide +kernel
theorem dX7_raise_68 : decode cX7_raise 68 = .ok (.dup, 1) := by decide +kernel
theorem dX7_raise_69 : decode cX7_raise 69 = .ok (.ldc_w 377, 3) := by decide +kernel
theorem dX7_raise_72 : decode cX7_raise 72 = .ok (.invokespecial 379, 3) := by decide +kernel
theorem dX7_raise_75 : decode cX7_raise 75 = .ok (.athrow, 1) := by decide +kernel
theorem dX7_raise_76 : decode cX7_raise 76 = .ok (.return_, 1) := by decide +kernel
theorem dX8_init_0 : decode cX8_init 0 = .ok (.aload_n 0, 1) := by decide +kernel
theorem dX8_init_1 : decode cX8_init 1 = .ok (.invokespecial 1, 3) := by decide +kernel
theorem dX8_init_4 : decode cX8_init 4 = .ok (.aload_n 0, 1) := by decide +kernel
theorem dX8_init_5 : decode cX8_init 5 = .ok (.sipush 138, 3) := by decide +kernel
theorem dX8_init_8 : decode cX8_init 8 = .ok (.newarray .int, 2) := by decide +kernel
theorem dX8_init_10 : decode cX8_init 10 = .ok (.putfield 7, 3) := by decide +kernel
theorem dX8_init_13 : decode cX8_init 13 = .ok (.aload_n 0, 1) := by decide +kernel
theorem dX8_init_14 : decode cX8_init 14 = .ok (.sipush 1104, 3) := by decide +kernel
theorem dX8_init_17 : decode cX8_init 17 = .ok (.newarray .int, 2) := by decide +kernel
theorem dX8_init_19 : decode cX8_init 19 = .ok (.putfield 13, 3) := by decide +kernel
theorem dX8_init_22 : decode cX8_init 22 = .ok (.aload_n 0, 1) := by decide +kernel
theorem dX8_init_23 : decode cX8_init 23 = .ok (.sipush 138, 3) := by decide +kernel
theorem dX8_init_26 : decode cX8_init 26 = .ok (.newarray .int, 2) := by decide +kernel
theorem dX8_init_28 : decode cX8_init 28 = .ok (.putfield 16, 3) := by decide +kernel
theorem dX8_init_31 : decode cX8_init 31 = .ok (.aload_n 0, 1) := by decide +kernel
theorem dX8_init_32 : decode cX8_init 32 = .ok (.sipush 138, 3) := by decide +kernel
theorem dX8_init_35 : decode cX8_init 35 = .ok (.newarray .int, 2) := by decide +kernel
theorem dX8_init_37 : decode cX8_init 37 = .ok (.putfield 19, 3) := by decide +kernel
theorem dX8_init_40 : decode cX8_init 40 = .ok (.aload_n 0, 1) := by decide +kernel
theorem dX8_init_41 : decode cX8_init 41 = .ok (.bipush 60, 2) := by decide +kernel
theorem dX8_init_43 : decode cX8_init 43 = .ok (.newarray .int, 2) := by decide +kernel
theorem dX8_init_45 : decode cX8_init 45 = .ok (.putfield 22, 3) := by decide +kernel
theorem dX8_init_48 : decode cX8_init 48 = .ok (.aload_n 0, 1) := by decide +kernel
theorem dX8_init_49 : decode cX8_init 49 = .ok (.iconst (-1), 1) := by decide +kernel
theorem dX8_init_50 : decode cX8_init 50 = .ok (.putfield 25, 3) := by decide +kernel
theorem dX8_init_53 : decode cX8_init 53 = .ok (.aload_n 0, 1) := by decide +kernel
theorem dX8_init_54 : decode cX8_init 54 = .ok (.iconst (-1), 1) := by decide +kernel
theorem dX8_init_55 : decode cX8_init 55 = .ok (.putfield 29, 3) := by decide +kernel
theorem dX8_init_58 : decode cX8_init 58 = .ok (.aload_n 0, 1) := by decide +kernel
theorem dX8_init_59 : decode cX8_init 59 = .ok (.bipush 60, 2) := by decide +kernel
theorem dX8_init_61 : decode cX8_init 61 = .ok (.newarray .char, 2) := by decide +kernel
theorem dX8_init_63 : decode cX8_init 63 = .ok (.putfield 32, 3) := by decide +kernel
theorem dX8_init_66 : decode cX8_init 66 = .ok (.aload_n 0, 1) := by decide +kernel
theorem dX8_init_67 : decode cX8_init 67 = .ok (.iconst 4, 1) := by decide +kernel
theorem dX8_init_68 : decode cX8_init 68 = .ok (.newarray .int, 2) := by decide +kernel
theorem dX8_init_70 : decode cX8_init 70 = .ok (.putfield 36, 3) := by decide +kernel
theorem dX8_init_73 : decode cX8_init 73 = .ok (.aload_n 0, 1) := by decide +kernel
theorem dX8_init_74 : decode cX8_init 74 = .ok (.iconst 4, 1) := by decide +kernel
theorem dX8_init_75 : decode cX8_init 75 = .ok (.newarray .int, 2) := by decide +kernel
theorem dX8_init_77 : decode cX8_init 77 = .ok (.putfield 39, 3) := by decide +kernel
theorem dX8_init_80 : decode cX8_init 80 = .ok (.aload_n 0, 1) := by decide +kernel
theorem dX8_init_81 : decode cX8_init 81 = .ok (.bipush 6, 2) := by decide +kernel
theorem dX8_init_83 : decode cX8_init 83 = .ok (.newarray .int, 2) := by decide +kernel
theorem dX8_init_85 : decode cX8_init 85 = .ok (.putfield 42, 3) := by decide +kernel
theorem dX8_init_88 : decode cX8_init 88 = .ok (.aload_n 0, 1) := by decide +kernel
theorem dX8_init_89 : decode cX8_init 89 = .ok (.bipush 64, 2) := by decide +kernel
theorem dX8_init_91 : decode cX8_init 91 = .ok (.newarray .int, 2) := by decide +kernel
theorem dX8_init_93 : decode cX8_init 93 = .ok (.putfield 45, 3) := by decide +kernel
theorem dX8_init_96 : decode cX8_init 96 = .ok (.aload_n 0, 1) := by decide +kernel
theorem dX8_init_97 : decode cX8_init 97 = .ok (.bipush 64, 2) := by decide +kernel
theorem dX8_init_99 : decode cX8_init 99 = .ok (.newarray .int, 2) := by decide +kernel
theorem dX8_init_101 : decode cX8_init 101 = .ok (.putfield 48, 3) := by decide +kernel
theorem dX8_init_104 : decode cX8_init 104 = .ok (.aload_n 0, 1) := by decide +kernel
theorem dX8_init_105 : decode cX8_init 105 = .ok (.sipush 186, 3) := by decide +kernel
theorem dX8_init_108 : decode cX8_init 108 = .ok (.newarray .int, 2) := by decide +kernel
theorem dX8_init_110 : decode cX8_init 110 = .ok (.putfield 51, 3) := by decide +kernel
theorem dX8_init_113 : decode cX8_init 113 = .ok (.return_, 1) := by decide +kernel
theorem dX8_thrown_0 : decode cX8_thrown 0 = .ok (.aload_n 0, 1) := by decide +kernel
theorem dX8_thrown_1 : decode cX8_thrown 1 = .ok (.getfield 54, 3) := by decide +kernel
theorem dX8_thrown_4 : decode cX8_thrown 4 = .ok (.ireturn, 1) := by decide +kernel
theorem dX8_fails_0 : decode cX8_fails 0 = .ok (.aload_n 0, 1) := by decide +kernel
theorem dX8_fails_1 : decode cX8_fails 1 = .ok (.iload_n 1, 1) := by decide +kernel
theorem dX8_fails_2 : decode cX8_fails 2 = .ok (.putfield 54, 3) := by decide +kernel
theorem dX8_fails_5 : decode cX8_fails 5 = .ok (.iload_n 1, 1) := by decide +kernel
theorem dX8_fails_6 : decode cX8_fails 6 = .ok (.ifCond .le 7, 3) := by decide +kernel
theorem dX8_fails_9 : decode cX8_fails 9 = .ok (.iconst 1, 1) := by decide +kernel
theorem dX8_fails_10 : decode cX8_fails 10 = .ok (.goto 4, 3) := by decide +kernel
theorem dX8_fails_13 : decode cX8_fails 13 = .ok (.iconst 0, 1) := by decide +kernel
theorem dX8_fails_14 : decode cX8_fails 14 = .ok (.ireturn, 1) := by decide +kernel
theorem dX8_in_0 : decode cX8_in 0 = .ok (.iload_n 0, 1) := by decide +kernel
theorem dX8_in_1 : decode cX8_in 1 = .ok (.iload_n 1, 1) := by decide +kernel
theorem dX8_in_2 : decode cX8_in 2 = .ok (.if_icmp .lt 12, 3) := by decide +kernel
theorem dX8_in_5 : decode cX8_in 5 = .ok (.iload_n 0, 1) := by decide +kernel
theorem dX8_in_6 : decode cX8_in 6 = .ok (.iload_n 2, 1) := by decide +kernel
theorem dX8_in_7 : decode cX8_in 7 = .ok (.if_icmp .gt 7, 3) := by decide +kernel
theorem dX8_in_10 : decode cX8_in 10 = .ok (.iconst 1, 1) := by decide +kernel
theorem dX8_in_11 : decode cX8_in 11 = .ok (.goto 4, 3) := by decide +kernel
theorem dX8_in_14 : decode cX8_in 14 = .ok (.iconst 0, 1) := by decide +kernel
theorem dX8_in_15 : decode cX8_in 15 = .ok (.ireturn, 1) := by decide +kernel
theorem dX8_size_0 : decode cX8_size 0 = .ok (.iload_n 0, 1) := by decide +kernel
theorem dX8_size_1 : decode cX8_size 1 = .ok (.ifCond .ge 8, 3) := by decide +kernel
theorem dX8_size_4 : decode cX8_size 4 = .ok (.iload_n 0, 1) := by decide +kernel
theorem dX8_size_5 : decode cX8_size 5 = .ok (.ineg, 1) := by decide +kernel
theorem dX8_size_6 : decode cX8_size 6 = .ok (.goto 4, 3) := by decide +kernel
theorem dX8_size_9 : decode cX8_size 9 = .ok (.iload_n 0, 1) := by decide +kernel
theorem dX8_size_10 : decode cX8_size 10 = .ok (.ireturn, 1) := by decide +kernel
theorem dX8_copies_0 : decode cX8_copies 0 = .ok (.iconst 0, 1) := by decide +kernel
theorem dX8_copies_1 : decode cX8_copies 1 = .ok (.istore 4, 2) := by decide +kernel
theorem dX8_copies_3 : decode cX8_copies 3 = .ok (.iload 4, 2) := by decide +kernel
theorem dX8_copies_5 : decode cX8_copies 5 = .ok (.sipush 138, 3) := by decide +kernel
theorem dX8_copies_8 : decode cX8_copies 8 = .ok (.if_icmp .ge 21, 3) := by decide +kernel
theorem dX8_copies_11 : decode cX8_copies 11 = .ok (.aload_n 2, 1) := by decide +kernel
theorem dX8_copies_12 : decode cX8_copies 12 = .ok (.iload_n 3, 1) := by decide +kernel
theorem dX8_copies_13 : decode cX8_copies 13 = .ok (.iload 4, 2) := by decide +kernel
theorem dX8_copies_15 : decode cX8_copies 15 = .ok (.iadd, 1) := by decide +kernel
theorem dX8_copies_16 : decode cX8_copies 16 = .ok (.aload_n 0, 1) := by decide +kernel
theorem dX8_copies_17 : decode cX8_copies 17 = .ok (.iload_n 1, 1) := by decide +kernel
theorem dX8_copies_18 : decode cX8_copies 18 = .ok (.iload 4, 2) := by decide +kernel
theorem dX8_copies_20 : decode cX8_copies 20 = .ok (.iadd, 1) := by decide +kernel
theorem dX8_copies_21 : decode cX8_copies 21 = .ok (.iaload, 1) := by decide +kernel
theorem dX8_copies_22 : decode cX8_copies 22 = .ok (.iastore, 1) := by decide +kernel
theorem dX8_copies_23 : decode cX8_copies 23 = .ok (.iinc 4 1, 3) := by decide +kernel
theorem dX8_copies_26 : decode cX8_copies 26 = .ok (.goto (-23), 3) := by decide +kernel
theorem dX8_copies_29 : decode cX8_copies 29 = .ok (.return_, 1) := by decide +kernel
theorem dX8_keeps_0 : decode cX8_keeps 0 = .ok (.aload_n 0, 1) := by decide +kernel
theorem dX8_keeps_1 : decode cX8_keeps 1 = .ok (.iconst 0, 1) := by decide +kernel
theorem dX8_keeps_2 : decode cX8_keeps 2 = .ok (.putfield 54, 3) := by decide +kernel
theorem dX8_keeps_5 : decode cX8_keeps 5 = .ok (.aload_n 0, 1) := by decide +kernel
theorem dX8_keeps_6 : decode cX8_keeps 6 = .ok (.getfield 57, 3) := by decide +kernel
theorem dX8_keeps_9 : decode cX8_keeps 9 = .ok (.ifCond .eq 4, 3) := by decide +kernel
theorem dX8_keeps_12 : decode cX8_keeps 12 = .ok (.return_, 1) := by decide +kernel
theorem dX8_keeps_13 : decode cX8_keeps 13 = .ok (.aload_n 0, 1) := by decide +kernel
theorem dX8_keeps_14 : decode cX8_keeps 14 = .ok (.getfield 61, 3) := by decide +kernel
theorem dX8_keeps_17 : decode cX8_keeps 17 = .ok (.bipush 8, 2) := by decide +kernel
theorem dX8_keeps_19 : decode cX8_keeps 19 = .ok (.if_icmp .ne 44, 3) := by decide +kernel
theorem dX8_keeps_22 : decode cX8_keeps 22 = .ok (.iconst 0, 1) := by decide +kernel
theorem dX8_keeps_23 : decode cX8_keeps 23 = .ok (.istore_n 2, 1) := by decide +kernel
theorem dX8_keeps_24 : decode cX8_keeps 24 = .ok (.iload_n 2, 1) := by decide +kernel
theorem dX8_keeps_25 : decode cX8_keeps 25 = .ok (.sipush 966, 3) := by decide +kernel
theorem dX8_keeps_28 : decode cX8_keeps 28 = .ok (.if_icmp .ge 25, 3) := by decide +kernel
theorem dX8_keeps_31 : decode cX8_keeps 31 = .ok (.aload_n 0, 1) := by decide +kernel
theorem dX8_keeps_32 : decode cX8_keeps 32 = .ok (.getfield 13, 3) := by decide +kernel
theorem dX8_keeps_35 : decode cX8_keeps 35 = .ok (.iload_n 2, 1) := by decide +kernel
theorem dX8_keeps_36 : decode cX8_keeps 36 = .ok (.aload_n 0, 1) := by decide +kernel
theorem dX8_keeps_37 : decode cX8_keeps 37 = .ok (.getfield 13, 3) := by decide +kernel
theorem dX8_keeps_40 : decode cX8_keeps 40 = .ok (.iload_n 2, 1) := by decide +kernel
theorem dX8_keeps_41 : decode cX8_keeps 41 = .ok (.sipush 138, 3) := by decide +kernel
theorem dX8_keeps_44 : decode cX8_keeps 44 = .ok (.iadd, 1) := by decide +kernel
theorem dX8_keeps_45 : decode cX8_keeps 45 = .ok (.iaload, 1) := by decide +kernel
theorem dX8_keeps_46 : decode cX8_keeps 46 = .ok (.iastore, 1) := by decide +kernel
theorem dX8_keeps_47 : decode cX8_keeps 47 = .ok (.iinc 2 1, 3) := by decide +kernel
theorem dX8_keeps_50 : decode cX8_keeps 50 = .ok (.goto (-26), 3) := by decide +kernel
theorem dX8_keeps_53 : decode cX8_keeps 53 = .ok (.aload_n 0, 1) := by decide +kernel
theorem dX8_keeps_54 : decode cX8_keeps 54 = .ok (.dup, 1) := by decide +kernel
theorem dX8_keeps_55 : decode cX8_keeps 55 = .ok (.getfield 61, 3) := by decide +kernel
theorem dX8_keeps_58 : decode cX8_keeps 58 = .ok (.iconst 1, 1) := by decide +kernel
theorem dX8_keeps_59 : decode cX8_keeps 59 = .ok (.isub, 1) := by decide +kernel
theorem dX8_keeps_60 : decode cX8_keeps 60 = .ok (.putfield 61, 3) := by decide +kernel
theorem dX8_keeps_63 : decode cX8_keeps 63 = .ok (.aload_n 1, 1) := by decide +kernel
theorem dX8_keeps_64 : decode cX8_keeps 64 = .ok (.iconst 0, 1) := by decide +kernel
theorem dX8_keeps_65 : decode cX8_keeps 65 = .ok (.aload_n 0, 1) := by decide +kernel
theorem dX8_keeps_66 : decode cX8_keeps 66 = .ok (.getfield 13, 3) := by decide +kernel
theorem dX8_keeps_69 : decode cX8_keeps 69 = .ok (.sipush 138, 3) := by decide +kernel
theorem dX8_keeps_72 : decode cX8_keeps 72 = .ok (.aload_n 0, 1) := by decide +kernel
theorem dX8_keeps_73 : decode cX8_keeps 73 = .ok (.getfield 61, 3) := by decide +kernel
theorem dX8_keeps_76 : decode cX8_keeps 76 = .ok (.imul, 1) := by decide +kernel
theorem dX8_keeps_77 : decode cX8_keeps 77 = .ok (.invokestatic 64, 3) := by decide +kernel
theorem dX8_keeps_80 : decode cX8_keeps 80 = .ok (.aload_n 0, 1) := by decide +kernel
theorem dX8_keeps_81 : decode cX8_keeps 81 = .ok (.dup, 1) := by decide +kernel
theorem dX8_keeps_82 : decode cX8_keeps 82 = .ok (.getfield 61, 3) := by decide +kernel
theorem dX8_keeps_85 : decode cX8_keeps 85 = .ok (.iconst 1, 1) := by decide +kernel
theorem dX8_keeps_86 : decode cX8_keeps 86 = .ok (.iadd, 1) := by decide +kernel
theorem dX8_keeps_87 : decode cX8_keeps 87 = .ok (.putfield 61, 3) := by decide +kernel
theorem dX8_keeps_90 : decode cX8_keeps 90 = .ok (.return_, 1) := by decide +kernel
theorem dX8_isHorizon_0 : decode cX8_isHorizon 0 = .ok (.iload_n 1, 1) := by decide +kernel
theorem dX8_isHorizon_1 : decode cX8_isHorizon 1 = .ok (.iconst 0, 1) := by decide +kernel
theorem dX8_isHorizon_2 : decode cX8_isHorizon 2 = .ok (.aload_n 0, 1) := by decide +kernel
theorem dX8_isHorizon_3 : decode cX8_isHorizon 3 = .ok (.getfield 7, 3) := by decide +kernel
theorem dX8_isHorizon_6 : decode cX8_isHorizon 6 = .ok (.iconst 0, 1) := by decide +kernel
theorem dX8_isHorizon_7 : decode cX8_isHorizon 7 = .ok (.iaload, 1) := by decide +kernel
theorem dX8_isHorizon_8 : decode cX8_isHorizon 8 = .ok (.iconst 1, 1) := by decide +kernel
theorem dX8_isHorizon_9 : decode cX8_isHorizon 9 = .ok (.isub, 1) := by decide +kernel
theorem dX8_isHorizon_10 : decode cX8_isHorizon 10 = .ok (.invokestatic 68, 3) := by decide +kernel
theorem dX8_isHorizon_13 : decode cX8_isHorizon 13 = .ok (.ireturn, 1) := by decide +kernel
theorem dX8_isTrader_0 : decode cX8_isTrader 0 = .ok (.iload_n 1, 1) := by decide +kernel
theorem dX8_isTrader_1 : decode cX8_isTrader 1 = .ok (.iconst 0, 1) := by decide +kernel
theorem dX8_isTrader_2 : decode cX8_isTrader 2 = .ok (.aload_n 0, 1) := by decide +kernel
theorem dX8_isTrader_3 : decode cX8_isTrader 3 = .ok (.getfield 7, 3) := by decide +kernel
theorem dX8_isTrader_6 : decode cX8_isTrader 6 = .ok (.iconst 1, 1) := by decide +kernel
theorem dX8_isTrader_7 : decode cX8_isTrader 7 = .ok (.iaload, 1) := by decide +kernel
theorem dX8_isTrader_8 : decode cX8_isTrader 8 = .ok (.iconst 1, 1) := by decide +kernel
theorem dX8_isTrader_9 : decode cX8_isTrader 9 = .ok (.isub, 1) := by decide +kernel
theorem dX8_isTrader_10 : decode cX8_isTrader 10 = .ok (.invokestatic 68, 3) := by decide +kernel
theorem dX8_isTrader_13 : decode cX8_isTrader 13 = .ok (.ireturn, 1) := by decide +kernel
theorem dX8_isContract_0 : decode cX8_isContract 0 = .ok (.iload_n 1, 1) := by decide +kernel
theorem dX8_isContract_1 : decode cX8_isContract 1 = .ok (.iconst 0, 1) := by decide +kernel
theorem dX8_isContract_2 : decode cX8_isContract 2 = .ok (.aload_n 0, 1) := by decide +kernel
theorem dX8_isContract_3 : decode cX8_isContract 3 = .ok (.getfield 7, 3) := by decide +kernel
theorem dX8_isContract_6 : decode cX8_isContract 6 = .ok (.iconst 2, 1) := by decide +kernel
theorem dX8_isContract_7 : decode cX8_isContract 7 = .ok (.iaload, 1) := by decide +kernel
theorem dX8_isContract_8 : decode cX8_isContract 8 = .ok (.iconst 1, 1) := by decide +kernel
theorem dX8_isContract_9 : decode cX8_isContract 9 = .ok (.isub, 1) := by decide +kernel
theorem dX8_isContract_10 : decode cX8_isContract 10 = .ok (.invokestatic 68, 3) := by decide +kernel
theorem dX8_isContract_13 : decode cX8_isContract 13 = .ok (.ireturn, 1) := by decide +kernel
theorem dX8_on_0 : decode cX8_on 0 = .ok (.aload_n 0, 1) := by decide +kernel
theorem dX8_on_1 : decode cX8_on 1 = .ok (.getfield 7, 3) := by decide +kernel
theorem dX8_on_4 : decode cX8_on 4 = .ok (.bipush 6, 2) := by decide +kernel
theorem dX8_on_6 : decode cX8_on 6 = .ok (.iconst 3, 1) := by decide +kernel
theorem dX8_on_7 : decode cX8_on 7 = .ok (.iload_n 1, 1) := by decide +kernel
theorem dX8_on_8 : decode cX8_on 8 = .ok (.imul, 1) := by decide +kernel
theorem dX8_on_9 : decode cX8_on 9 = .ok (.iadd, 1) := by decide +kernel
theorem dX8_on_10 : decode cX8_on 10 = .ok (.iload_n 2, 1) := by decide +kernel
theorem dX8_on_11 : decode cX8_on 11 = .ok (.iadd, 1) := by decide +kernel
theorem dX8_on_12 : decode cX8_on 12 = .ok (.iaload, 1) := by decide +kernel
theorem dX8_on_13 : decode cX8_on 13 = .ok (.ireturn, 1) := by decide +kernel
theorem dX8_of_0 : decode cX8_of 0 = .ok (.aload_n 0, 1) := by decide +kernel
theorem dX8_of_1 : decode cX8_of 1 = .ok (.getfield 7, 3) := by decide +kernel
theorem dX8_of_4 : decode cX8_of 4 = .ok (.bipush 18, 2) := by decide +kernel
theorem dX8_of_6 : decode cX8_of 6 = .ok (.iconst 3, 1) := by decide +kernel
theorem dX8_of_7 : decode cX8_of 7 = .ok (.iload_n 1, 1) := by decide +kernel
theorem dX8_of_8 : decode cX8_of 8 = .ok (.imul, 1) := by decide +kernel
theorem dX8_of_9 : decode cX8_of 9 = .ok (.iadd, 1) := by decide +kernel
theorem dX8_of_10 : decode cX8_of 10 = .ok (.iload_n 2, 1) := by decide +kernel
theorem dX8_of_11 : decode cX8_of 11 = .ok (.iadd, 1) := by decide +kernel
theorem dX8_of_12 : decode cX8_of 12 = .ok (.iaload, 1) := by decide +kernel
theorem dX8_of_13 : decode cX8_of 13 = .ok (.ireturn, 1) := by decide +kernel
theorem dX8_lays_0 : decode cX8_lays 0 = .ok (.aload_n 0, 1) := by decide +kernel
theorem dX8_lays_1 : decode cX8_lays 1 = .ok (.getfield 7, 3) := by decide +kernel
theorem dX8_lays_4 : decode cX8_lays 4 = .ok (.bipush 18, 2) := by decide +kernel
theorem dX8_lays_6 : decode cX8_lays 6 = .ok (.iconst 3, 1) := by decide +kernel
theorem dX8_lays_7 : decode cX8_lays 7 = .ok (.iload_n 1, 1) := by decide +kernel
theorem dX8_lays_8 : decode cX8_lays 8 = .ok (.imul, 1) := by decide +kernel
theorem dX8_lays_9 : decode cX8_lays 9 = .ok (.iadd, 1) := by decide +kernel
theorem dX8_lays_10 : decode cX8_lays 10 = .ok (.iload_n 2, 1) := by decide +kernel
theorem dX8_lays_11 : decode cX8_lays 11 = .ok (.iadd, 1) := by decide +kernel
theorem dX8_lays_12 : decode cX8_lays 12 = .ok (.iload_n 3, 1) := by decide +kernel
theorem dX8_lays_13 : decode cX8_lays 13 = .ok (.iastore, 1) := by decide +kernel
theorem dX8_lays_14 : decode cX8_lays 14 = .ok (.return_, 1) := by decide +kernel
theorem dX8_by_0 : decode cX8_by 0 = .ok (.aload_n 0, 1) := by decide +kernel
theorem dX8_by_1 : decode cX8_by 1 = .ok (.getfield 7, 3) := by decide +kernel
theorem dX8_by_4 : decode cX8_by 4 = .ok (.bipush 36, 2) := by decide +kernel
theorem dX8_by_6 : decode cX8_by 6 = .ok (.iconst 5, 1) := by decide +kernel
theorem dX8_by_7 : decode cX8_by 7 = .ok (.iload_n 1, 1) := by decide +kernel
theorem dX8_by_8 : decode cX8_by 8 = .ok (.imul, 1) := by decide +kernel
theorem dX8_by_9 : decode cX8_by 9 = .ok (.iadd, 1) := by decide +kernel
theorem dX8_by_10 : decode cX8_by 10 = .ok (.iload_n 2, 1) := by decide +kernel
theorem dX8_by_11 : decode cX8_by 11 = .ok (.iadd, 1) := by decide +kernel
theorem dX8_by_12 : decode cX8_by 12 = .ok (.iaload, 1) := by decide +kernel
theorem dX8_by_13 : decode cX8_by 13 = .ok (.ireturn, 1) := by decide +kernel
theorem dX8_puts_0 : decode cX8_puts 0 = .ok (.aload_n 0, 1) := by decide +kernel
theorem dX8_puts_1 : decode cX8_puts 1 = .ok (.getfield 7, 3) := by decide +kernel
theorem dX8_puts_4 : decode cX8_puts 4 = .ok (.bipush 36, 2) := by decide +kernel
theorem dX8_puts_6 : decode cX8_puts 6 = .ok (.iconst 5, 1) := by decide +kernel
theorem dX8_puts_7 : decode cX8_puts 7 = .ok (.iload_n 1, 1) := by decide +kernel
theorem dX8_puts_8 : decode cX8_puts 8 = .ok (.imul, 1) := by decide +kernel
theorem dX8_puts_9 : decode cX8_puts 9 = .ok (.iadd, 1) := by decide +kernel
theorem dX8_puts_10 : decode cX8_puts 10 = .ok (.iload_n 2, 1) := by decide +kernel
theorem dX8_puts_11 : decode cX8_puts 11 = .ok (.iadd, 1) := by decide +kernel
theorem dX8_puts_12 : decode cX8_puts 12 = .ok (.iload_n 3, 1) := by decide +kernel
theorem dX8_puts_13 : decode cX8_puts 13 = .ok (.iastore, 1) := by decide +kernel
theorem dX8_puts_14 : decode cX8_puts 14 = .ok (.return_, 1) := by decide +kernel
theorem dX8_isSound_0 : decode cX8_isSound 0 = .ok (.aload_n 0, 1) := by decide +kernel
theorem dX8_isSound_1 : decode cX8_isSound 1 = .ok (.iload_n 1, 1) := by decide +kernel
theorem dX8_isSound_2 : decode cX8_isSound 2 = .ok (.iconst 1, 1) := by decide +kernel
theorem dX8_isSound_3 : decode cX8_isSound 3 = .ok (.invokevirtual 72, 3) := by decide +kernel
theorem dX8_isSound_6 : decode cX8_isSound 6 = .ok (.ifCond .ne 16, 3) := by decide +kernel
theorem dX8_isSound_9 : decode cX8_isSound 9 = .ok (.aload_n 0, 1) := by decide +kernel
theorem dX8_isSound_10 : decode cX8_isSound 10 = .ok (.iload_n 1, 1) := by decide +kernel
theorem dX8_isSound_11 : decode cX8_isSound 11 = .ok (.iconst 2, 1) := by decide +kernel
theorem dX8_isSound_12 : decode cX8_isSound 12 = .ok (.invokevirtual 72, 3) := by decide +kernel
theorem dX8_isSound_15 : decode cX8_isSound 15 = .ok (.ifCond .ne 7, 3) := by decide +kernel
theorem dX8_isSound_18 : decode cX8_isSound 18 = .ok (.iconst 1, 1) := by decide +kernel
theorem dX8_isSound_19 : decode cX8_isSound 19 = .ok (.goto 4, 3) := by decide +kernel
theorem dX8_isSound_22 : decode cX8_isSound 22 = .ok (.iconst 0, 1) := by decide +kernel
theorem dX8_isSound_23 : decode cX8_isSound 23 = .ok (.ireturn, 1) := by decide +kernel
theorem dX8_position_0 : decode cX8_position 0 = .ok (.iconst 0, 1) := by decide +kernel
theorem dX8_position_1 : decode cX8_position 1 = .ok (.istore_n 3, 1) := by decide +kernel
theorem dX8_position_2 : decode cX8_position 2 = .ok (.iconst 0, 1) := by decide +kernel
theorem dX8_position_3 : decode cX8_position 3 = .ok (.istore 4, 2) := by decide +kernel
theorem dX8_position_5 : decode cX8_position 5 = .ok (.iload 4, 2) := by decide +kernel
theorem dX8_position_7 : decode cX8_position 7 = .ok (.aload_n 0, 1) := by decide +kernel
theorem dX8_position_8 : decode cX8_position 8 = .ok (.getfield 7, 3) := by decide +kernel
theorem dX8_position_11 : decode cX8_position 11 = .ok (.iconst 2, 1) := by decide +kernel
theorem dX8_position_12 : decode cX8_position 12 = .ok (.iaload, 1) := by decide +kernel
theorem dX8_position_13 : decode cX8_position 13 = .ok (.if_icmp .ge 70, 3) := by decide +kernel
theorem dX8_position_16 : decode cX8_position 16 = .ok (.aload_n 0, 1) := by decide +kernel
theorem dX8_position_17 : decode cX8_position 17 = .ok (.iload 4, 2) := by decide +kernel
theorem dX8_position_19 : decode cX8_position 19 = .ok (.iconst 2, 1) := by decide +kernel
theorem dX8_position_20 : decode cX8_position 20 = .ok (.invokevirtual 76, 3) := by decide +kernel
theorem dX8_position_23 : decode cX8_position 23 = .ok (.iload_n 2, 1) := by decide +kernel
theorem dX8_position_24 : decode cX8_position 24 = .ok (.if_icmp .eq 6, 3) := by decide +kernel
theorem dX8_position_27 : decode cX8_position 27 = .ok (.goto 50, 3) := by decide +kernel
theorem dX8_position_30 : decode cX8_position 30 = .ok (.iload_n 3, 1) := by decide +kernel
theorem dX8_position_31 : decode cX8_position 31 = .ok (.aload_n 0, 1) := by decide +kernel
theorem dX8_position_32 : decode cX8_position 32 = .ok (.iload 4, 2) := by decide +kernel
theorem dX8_position_34 : decode cX8_position 34 = .ok (.iconst 0, 1) := by decide +kernel
theorem dX8_position_35 : decode cX8_position 35 = .ok (.invokevirtual 76, 3) := by decide +kernel
theorem dX8_position_38 : decode cX8_position 38 = .ok (.iload_n 1, 1) := by decide +kernel
theorem dX8_position_39 : decode cX8_position 39 = .ok (.if_icmp .ne 13, 3) := by decide +kernel
theorem dX8_position_42 : decode cX8_position 42 = .ok (.aload_n 0, 1) := by decide +kernel
theorem dX8_position_43 : decode cX8_position 43 = .ok (.iload 4, 2) := by decide +kernel
theorem dX8_position_45 : decode cX8_position 45 = .ok (.iconst 3, 1) := by decide +kernel
theorem dX8_position_46 : decode cX8_position 46 = .ok (.invokevirtual 76, 3) := by decide +kernel
theorem dX8_position_49 : decode cX8_position 49 = .ok (.goto 26, 3) := by decide +kernel
theorem dX8_position_52 : decode cX8_position 52 = .ok (.aload_n 0, 1) := by decide +kernel
theorem dX8_position_53 : decode cX8_position 53 = .ok (.iload 4, 2) := by decide +kernel
theorem dX8_position_55 : decode cX8_position 55 = .ok (.iconst 1, 1) := by decide +kernel
theorem dX8_position_56 : decode cX8_position 56 = .ok (.invokevirtual 76, 3) := by decide +kernel
theorem dX8_position_59 : decode cX8_position 59 = .ok (.iload_n 1, 1) := by decide +kernel
theorem dX8_position_60 : decode cX8_position 60 = .ok (.if_icmp .ne 14, 3) := by decide +kernel
theorem dX8_position_63 : decode cX8_position 63 = .ok (.aload_n 0, 1) := by decide +kernel
theorem dX8_position_64 : decode cX8_position 64 = .ok (.iload 4, 2) := by decide +kernel
theorem dX8_position_66 : decode cX8_position 66 = .ok (.iconst 3, 1) := by decide +kernel
theorem dX8_position_67 : decode cX8_position 67 = .ok (.invokevirtual 76, 3) := by decide +kernel
theorem dX8_position_70 : decode cX8_position 70 = .ok (.ineg, 1) := by decide +kernel
theorem dX8_position_71 : decode cX8_position 71 = .ok (.goto 4, 3) := by decide +kernel
theorem dX8_position_74 : decode cX8_position 74 = .ok (.iconst 0, 1) := by decide +kernel
theorem dX8_position_75 : decode cX8_position 75 = .ok (.iadd, 1) := by decide +kernel
theorem dX8_position_76 : decode cX8_position 76 = .ok (.istore_n 3, 1) := by decide +kernel
theorem dX8_position_77 : decode cX8_position 77 = .ok (.iinc 4 1, 3) := by decide +kernel
theorem dX8_position_80 : decode cX8_position 80 = .ok (.goto (-75), 3) := by decide +kernel
theorem dX8_position_83 : decode cX8_position 83 = .ok (.iload_n 3, 1) := by decide +kernel
theorem dX8_position_84 : decode cX8_position 84 = .ok (.ireturn, 1) := by decide +kernel
theorem dX8_margin_0 : decode cX8_margin 0 = .ok (.iconst 0, 1) := by decide +kernel
theorem dX8_margin_1 : decode cX8_margin 1 = .ok (.istore_n 2, 1) := by decide +kernel
theorem dX8_margin_2 : decode cX8_margin 2 = .ok (.iconst 0, 1) := by decide +kernel
theorem dX8_margin_3 : decode cX8_margin 3 = .ok (.istore_n 3, 1) := by decide +kernel
theorem dX8_margin_4 : decode cX8_margin 4 = .ok (.iload_n 3, 1) := by decide +kernel
theorem dX8_margin_5 : decode cX8_margin 5 = .ok (.aload_n 0, 1) := by decide +kernel
theorem dX8_margin_6 : decode cX8_margin 6 = .ok (.getfield 7, 3) := by decide +kernel
theorem dX8_margin_9 : decode cX8_margin 9 = .ok (.iconst 0, 1) := by decide +kernel
theorem dX8_margin_10 : decode cX8_margin 10 = .ok (.iaload, 1) := by decide +kernel
theorem dX8_margin_11 : decode cX8_margin 11 = .ok (.if_icmp .ge 28, 3) := by decide +kernel
theorem dX8_margin_14 : decode cX8_margin 14 = .ok (.iload_n 2, 1) := by decide +kernel
theorem dX8_margin_15 : decode cX8_margin 15 = .ok (.aload_n 0, 1) := by decide +kernel
theorem dX8_margin_16 : decode cX8_margin 16 = .ok (.iload_n 1, 1) := by decide +kernel
theorem dX8_margin_17 : decode cX8_margin 17 = .ok (.iload_n 3, 1) := by decide +kernel
theorem dX8_margin_18 : decode cX8_margin 18 = .ok (.invokevirtual 79, 3) := by decide +kernel
theorem dX8_margin_21 : decode cX8_margin 21 = .ok (.invokestatic 82, 3) := by decide +kernel
theorem dX8_margin_24 : decode cX8_margin 24 = .ok (.aload_n 0, 1) := by decide +kernel
theorem dX8_margin_25 : decode cX8_margin 25 = .ok (.iload_n 3, 1) := by decide +kernel
theorem dX8_margin_26 : decode cX8_margin 26 = .ok (.iconst 2, 1) := by decide +kernel
theorem dX8_margin_27 : decode cX8_margin 27 = .ok (.invokevirtual 86, 3) := by decide +kernel
theorem dX8_margin_30 : decode cX8_margin 30 = .ok (.imul, 1) := by decide +kernel
theorem dX8_margin_31 : decode cX8_margin 31 = .ok (.iadd, 1) := by decide +kernel
theorem dX8_margin_32 : decode cX8_margin 32 = .ok (.istore_n 2, 1) := by decide +kernel
theorem dX8_margin_33 : decode cX8_margin 33 = .ok (.iinc 3 1, 3) := by decide +kernel
theorem dX8_margin_36 : decode cX8_margin 36 = .ok (.goto (-32), 3) := by decide +kernel
theorem dX8_margin_39 : decode cX8_margin 39 = .ok (.iload_n 2, 1) := by decide +kernel
theorem dX8_margin_40 : decode cX8_margin 40 = .ok (.ireturn, 1) := by decide +kernel
theorem dX8_variation_0 : decode cX8_variation 0 = .ok (.iconst 0, 1) := by decide +kernel
theorem dX8_variation_1 : decode cX8_variation 1 = .ok (.istore_n 2, 1) := by decide +kernel
theorem dX8_variation_2 : decode cX8_variation 2 = .ok (.iconst 0, 1) := by decide +kernel
theorem dX8_variation_3 : decode cX8_variation 3 = .ok (.istore_n 3, 1) := by decide +kernel
theorem dX8_variation_4 : decode cX8_variation 4 = .ok (.iload_n 3, 1) := by decide +kernel
theorem dX8_variation_5 : decode cX8_variation 5 = .ok (.aload_n 0, 1) := by decide +kernel
theorem dX8_variation_6 : decode cX8_variation 6 = .ok (.getfield 7, 3) := by decide +kernel
theorem dX8_variation_9 : decode cX8_variation 9 = .ok (.iconst 0, 1) := by decide +kernel
theorem dX8_variation_10 : decode cX8_variation 10 = .ok (.iaload, 1) := by decide +kernel
theorem dX8_variation_11 : decode cX8_variation 11 = .ok (.if_icmp .ge 32, 3) := by decide +kernel
theorem dX8_variation_14 : decode cX8_variation 14 = .ok (.iload_n 2, 1) := by decide +kernel
theorem dX8_variation_15 : decode cX8_variation 15 = .ok (.aload_n 0, 1) := by decide +kernel
theorem dX8_variation_16 : decode cX8_variation 16 = .ok (.iload_n 1, 1) := by decide +kernel
theorem dX8_variation_17 : decode cX8_variation 17 = .ok (.iload_n 3, 1) := by decide +kernel
theorem dX8_variation_18 : decode cX8_variation 18 = .ok (.invokevirtual 79, 3) := by decide +kernel
theorem dX8_variation_21 : decode cX8_variation 21 = .ok (.aload_n 0, 1) := by decide +kernel
theorem dX8_variation_22 : decode cX8_variation 22 = .ok (.iload_n 3, 1) := by decide +kernel
theorem dX8_variation_23 : decode cX8_variation 23 = .ok (.iconst 1, 1) := by decide +kernel
theorem dX8_variation_24 : decode cX8_variation 24 = .ok (.invokevirtual 86, 3) := by decide +kernel
theorem dX8_variation_27 : decode cX8_variation 27 = .ok (.aload_n 0, 1) := by decide +kernel
theorem dX8_variation_28 : decode cX8_variation 28 = .ok (.iload_n 3, 1) := by decide +kernel
theorem dX8_variation_29 : decode cX8_variation 29 = .ok (.iconst 0, 1) := by decide +kernel
theorem dX8_variation_30 : decode cX8_variation 30 = .ok (.invokevirtual 86, 3) := by decide +kernel
theorem dX8_variation_33 : decode cX8_variation 33 = .ok (.isub, 1) := by decide +kernel
theorem dX8_variation_34 : decode cX8_variation 34 = .ok (.imul, 1) := by decide +kernel
theorem dX8_variation_35 : decode cX8_variation 35 = .ok (.iadd, 1) := by decide +kernel
theorem dX8_variation_36 : decode cX8_variation 36 = .ok (.istore_n 2, 1) := by decide +kernel
theorem dX8_variation_37 : decode cX8_variation 37 = .ok (.iinc 3 1, 3) := by decide +kernel
theorem dX8_variation_40 : decode cX8_variation 40 = .ok (.goto (-36), 3) := by decide +kernel
theorem dX8_variation_43 : decode cX8_variation 43 = .ok (.iload_n 2, 1) := by decide +kernel
theorem dX8_variation_44 : decode cX8_variation 44 = .ok (.ireturn, 1) := by decide +kernel
theorem dX8_addHorizon_0 : decode cX8_addHorizon 0 = .ok (.aload_n 0, 1) := by decide +kernel
theorem dX8_addHorizon_1 : decode cX8_addHorizon 1 = .ok (.iload_n 1, 1) := by decide +kernel
theorem dX8_addHorizon_2 : decode cX8_addHorizon 2 = .ok (.iconst 1, 1) := by decide +kernel
theorem dX8_addHorizon_3 : decode cX8_addHorizon 3 = .ok (.bipush 99, 2) := by decide +kernel
theorem dX8_addHorizon_5 : decode cX8_addHorizon 5 = .ok (.invokestatic 68, 3) := by decide +kernel
theorem dX8_addHorizon_8 : decode cX8_addHorizon 8 = .ok (.ifCond .eq 13, 3) := by decide +kernel
theorem dX8_addHorizon_11 : decode cX8_addHorizon 11 = .ok (.iload_n 2, 1) := by decide +kernel
theorem dX8_addHorizon_12 : decode cX8_addHorizon 12 = .ok (.iconst 1, 1) := by decide +kernel
theorem dX8_addHorizon_13 : decode cX8_addHorizon 13 = .ok (.bipush 20, 2) := by decide +kernel
theorem dX8_addHorizon_15 : decode cX8_addHorizon 15 = .ok (.invokestatic 68, 3) := by decide +kernel
theorem dX8_addHorizon_18 : decode cX8_addHorizon 18 = .ok (.ifCond .ne 7, 3) := by decide +kernel
theorem dX8_addHorizon_21 : decode cX8_addHorizon 21 = .ok (.iconst 1, 1) := by decide +kernel
theorem dX8_addHorizon_22 : decode cX8_addHorizon 22 = .ok (.goto 18, 3) := by decide +kernel
theorem dX8_addHorizon_25 : decode cX8_addHorizon 25 = .ok (.aload_n 0, 1) := by decide +kernel
theorem dX8_addHorizon_26 : decode cX8_addHorizon 26 = .ok (.getfield 7, 3) := by decide +kernel
theorem dX8_addHorizon_29 : decode cX8_addHorizon 29 = .ok (.iconst 0, 1) := by decide +kernel
theorem dX8_addHorizon_30 : decode cX8_addHorizon 30 = .ok (.iaload, 1) := by decide +kernel
theorem dX8_addHorizon_31 : decode cX8_addHorizon 31 = .ok (.iconst 4, 1) := by decide +kernel
theorem dX8_addHorizon_32 : decode cX8_addHorizon 32 = .ok (.if_icmp .ne 7, 3) := by decide +kernel
theorem dX8_addHorizon_35 : decode cX8_addHorizon 35 = .ok (.iconst 2, 1) := by decide +kernel
theorem dX8_addHorizon_36 : decode cX8_addHorizon 36 = .ok (.goto 4, 3) := by decide +kernel
theorem dX8_addHorizon_39 : decode cX8_addHorizon 39 = .ok (.iconst 0, 1) := by decide +kernel
theorem dX8_addHorizon_40 : decode cX8_addHorizon 40 = .ok (.invokevirtual 89, 3) := by decide +kernel
theorem dX8_addHorizon_43 : decode cX8_addHorizon 43 = .ok (.ifCond .eq 5, 3) := by decide +kernel
theorem dX8_addHorizon_46 : decode cX8_addHorizon 46 = .ok (.iconst 0, 1) := by decide +kernel
theorem dX8_addHorizon_47 : decode cX8_addHorizon 47 = .ok (.ireturn, 1) := by decide +kernel
theorem dX8_addHorizon_48 : decode cX8_addHorizon 48 = .ok (.aload_n 0, 1) := by decide +kernel
theorem dX8_addHorizon_49 : decode cX8_addHorizon 49 = .ok (.aload_n 0, 1) := by decide +kernel
theorem dX8_addHorizon_50 : decode cX8_addHorizon 50 = .ok (.getfield 7, 3) := by decide +kernel
theorem dX8_addHorizon_53 : decode cX8_addHorizon 53 = .ok (.invokevirtual 93, 3) := by decide +kernel
theorem dX8_addHorizon_56 : decode cX8_addHorizon 56 = .ok (.bipush 6, 2) := by decide +kernel
theorem dX8_addHorizon_58 : decode cX8_addHorizon 58 = .ok (.iconst 3, 1) := by decide +kernel
theorem dX8_addHorizon_59 : decode cX8_addHorizon 59 = .ok (.aload_n 0, 1) := by decide +kernel
theorem dX8_addHorizon_60 : decode cX8_addHorizon 60 = .ok (.getfield 7, 3) := by decide +kernel
theorem dX8_addHorizon_63 : decode cX8_addHorizon 63 = .ok (.iconst 0, 1) := by decide +kernel
theorem dX8_addHorizon_64 : decode cX8_addHorizon 64 = .ok (.iaload, 1) := by decide +kernel
theorem dX8_addHorizon_65 : decode cX8_addHorizon 65 = .ok (.imul, 1) := by decide +kernel
theorem dX8_addHorizon_66 : decode cX8_addHorizon 66 = .ok (.iadd, 1) := by decide +kernel
theorem dX8_addHorizon_67 : decode cX8_addHorizon 67 = .ok (.istore_n 3, 1) := by decide +kernel
theorem dX8_addHorizon_68 : decode cX8_addHorizon 68 = .ok (.aload_n 0, 1) := by decide +kernel
theorem dX8_addHorizon_69 : decode cX8_addHorizon 69 = .ok (.getfield 7, 3) := by decide +kernel
theorem dX8_addHorizon_72 : decode cX8_addHorizon 72 = .ok (.iload_n 3, 1) := by decide +kernel
theorem dX8_addHorizon_73 : decode cX8_addHorizon 73 = .ok (.iconst 0, 1) := by decide +kernel
theorem dX8_addHorizon_74 : decode cX8_addHorizon 74 = .ok (.iadd, 1) := by decide +kernel
theorem dX8_addHorizon_75 : decode cX8_addHorizon 75 = .ok (.iload_n 1, 1) := by decide +kernel
theorem dX8_addHorizon_76 : decode cX8_addHorizon 76 = .ok (.iastore, 1) := by decide +kernel
theorem dX8_addHorizon_77 : decode cX8_addHorizon 77 = .ok (.aload_n 0, 1) := by decide +kernel
theorem dX8_addHorizon_78 : decode cX8_addHorizon 78 = .ok (.getfield 7, 3) := by decide +kernel
theorem dX8_addHorizon_81 : decode cX8_addHorizon 81 = .ok (.iload_n 3, 1) := by decide +kernel
theorem dX8_addHorizon_82 : decode cX8_addHorizon 82 = .ok (.iconst 1, 1) := by decide +kernel
theorem dX8_addHorizon_83 : decode cX8_addHorizon 83 = .ok (.iadd, 1) := by decide +kernel
theorem dX8_addHorizon_84 : decode cX8_addHorizon 84 = .ok (.iload_n 1, 1) := by decide +kernel
theorem dX8_addHorizon_85 : decode cX8_addHorizon 85 = .ok (.iastore, 1) := by decide +kernel
theorem dX8_addHorizon_86 : decode cX8_addHorizon 86 = .ok (.aload_n 0, 1) := by decide +kernel
theorem dX8_addHorizon_87 : decode cX8_addHorizon 87 = .ok (.getfield 7, 3) := by decide +kernel
theorem dX8_addHorizon_90 : decode cX8_addHorizon 90 = .ok (.iload_n 3, 1) := by decide +kernel
theorem dX8_addHorizon_91 : decode cX8_addHorizon 91 = .ok (.iconst 2, 1) := by decide +kernel
theorem dX8_addHorizon_92 : decode cX8_addHorizon 92 = .ok (.iadd, 1) := by decide +kernel
theorem dX8_addHorizon_93 : decode cX8_addHorizon 93 = .ok (.iload_n 2, 1) := by decide +kernel
theorem dX8_addHorizon_94 : decode cX8_addHorizon 94 = .ok (.iastore, 1) := by decide +kernel
theorem dX8_addHorizon_95 : decode cX8_addHorizon 95 = .ok (.aload_n 0, 1) := by decide +kernel
theorem dX8_addHorizon_96 : decode cX8_addHorizon 96 = .ok (.getfield 7, 3) := by decide +kernel
theorem dX8_addHorizon_99 : decode cX8_addHorizon 99 = .ok (.iconst 0, 1) := by decide +kernel
theorem dX8_addHorizon_100 : decode cX8_addHorizon 100 = .ok (.dup2, 1) := by decide +kernel
theorem dX8_addHorizon_101 : decode cX8_addHorizon 101 = .ok (.iaload, 1) := by decide +kernel
theorem dX8_addHorizon_102 : decode cX8_addHorizon 102 = .ok (.iconst 1, 1) := by decide +kernel
theorem dX8_addHorizon_103 : decode cX8_addHorizon 103 = .ok (.iadd, 1) := by decide +kernel
theorem dX8_addHorizon_104 : decode cX8_addHorizon 104 = .ok (.iastore, 1) := by decide +kernel
theorem dX8_addHorizon_105 : decode cX8_addHorizon 105 = .ok (.aload_n 0, 1) := by decide +kernel
theorem dX8_addHorizon_106 : decode cX8_addHorizon 106 = .ok (.getfield 7, 3) := by decide +kernel
theorem dX8_addHorizon_109 : decode cX8_addHorizon 109 = .ok (.iconst 0, 1) := by decide +kernel
theorem dX8_addHorizon_110 : decode cX8_addHorizon 110 = .ok (.iaload, 1) := by decide +kernel
theorem dX8_addHorizon_111 : decode cX8_addHorizon 111 = .ok (.iconst 1, 1) := by decide +kernel
theorem dX8_addHorizon_112 : decode cX8_addHorizon 112 = .ok (.isub, 1) := by decide +kernel
theorem dX8_addHorizon_113 : decode cX8_addHorizon 113 = .ok (.ireturn, 1) := by decide +kernel
theorem dX8_addTrader_0 : decode cX8_addTrader 0 = .ok (.aload_n 0, 1) := by decide +kernel
theorem dX8_addTrader_1 : decode cX8_addTrader 1 = .ok (.iload_n 1, 1) := by decide +kernel
theorem dX8_addTrader_2 : decode cX8_addTrader 2 = .ok (.iconst 0, 1) := by decide +kernel
theorem dX8_addTrader_3 : decode cX8_addTrader 3 = .ok (.sipush 9999, 3) := by decide +kernel
theorem dX8_addTrader_6 : decode cX8_addTrader 6 = .ok (.invokestatic 68, 3) := by decide +kernel
theorem dX8_addTrader_9 : decode cX8_addTrader 9 = .ok (.ifCond .ne 7, 3) := by decide +kernel
theorem dX8_addTrader_12 : decode cX8_addTrader 12 = .ok (.iconst 1, 1) := by decide +kernel
theorem dX8_addTrader_13 : decode cX8_addTrader 13 = .ok (.goto 19, 3) := by decide +kernel
theorem dX8_addTrader_16 : decode cX8_addTrader 16 = .ok (.aload_n 0, 1) := by decide +kernel
theorem dX8_addTrader_17 : decode cX8_addTrader 17 = .ok (.getfield 7, 3) := by decide +kernel
theorem dX8_addTrader_20 : decode cX8_addTrader 20 = .ok (.iconst 1, 1) := by decide +kernel
theorem dX8_addTrader_21 : decode cX8_addTrader 21 = .ok (.iaload, 1) := by decide +kernel
theorem dX8_addTrader_22 : decode cX8_addTrader 22 = .ok (.bipush 6, 2) := by decide +kernel
theorem dX8_addTrader_24 : decode cX8_addTrader 24 = .ok (.if_icmp .ne 7, 3) := by decide +kernel
theorem dX8_addTrader_27 : decode cX8_addTrader 27 = .ok (.iconst 2, 1) := by decide +kernel
theorem dX8_addTrader_28 : decode cX8_addTrader 28 = .ok (.goto 4, 3) := by decide +kernel
theorem dX8_addTrader_31 : decode cX8_addTrader 31 = .ok (.iconst 0, 1) := by decide +kernel
theorem dX8_addTrader_32 : decode cX8_addTrader 32 = .ok (.invokevirtual 89, 3) := by decide +kernel
theorem dX8_addTrader_35 : decode cX8_addTrader 35 = .ok (.ifCond .eq 5, 3) := by decide +kernel
theorem dX8_addTrader_38 : decode cX8_addTrader 38 = .ok (.iconst 0, 1) := by decide +kernel
theorem dX8_addTrader_39 : decode cX8_addTrader 39 = .ok (.ireturn, 1) := by decide +kernel
theorem dX8_addTrader_40 : decode cX8_addTrader 40 = .ok (.aload_n 0, 1) := by decide +kernel
theorem dX8_addTrader_41 : decode cX8_addTrader 41 = .ok (.aload_n 0, 1) := by decide +kernel
theorem dX8_addTrader_42 : decode cX8_addTrader 42 = .ok (.getfield 7, 3) := by decide +kernel
theorem dX8_addTrader_45 : decode cX8_addTrader 45 = .ok (.invokevirtual 93, 3) := by decide +kernel
theorem dX8_addTrader_48 : decode cX8_addTrader 48 = .ok (.aload_n 0, 1) := by decide +kernel
theorem dX8_addTrader_49 : decode cX8_addTrader 49 = .ok (.getfield 7, 3) := by decide +kernel
theorem dX8_addTrader_52 : decode cX8_addTrader 52 = .ok (.iconst 1, 1) := by decide +kernel
theorem dX8_addTrader_53 : decode cX8_addTrader 53 = .ok (.iaload, 1) := by decide +kernel
theorem dX8_addTrader_54 : decode cX8_addTrader 54 = .ok (.istore_n 2, 1) := by decide +kernel
theorem dX8_addTrader_55 : decode cX8_addTrader 55 = .ok (.aload_n 0, 1) := by decide +kernel
theorem dX8_addTrader_56 : decode cX8_addTrader 56 = .ok (.getfield 7, 3) := by decide +kernel
theorem dX8_addTrader_59 : decode cX8_addTrader 59 = .ok (.iconst 1, 1) := by decide +kernel
theorem dX8_addTrader_60 : decode cX8_addTrader 60 = .ok (.dup2, 1) := by decide +kernel
theorem dX8_addTrader_61 : decode cX8_addTrader 61 = .ok (.iaload, 1) := by decide +kernel
theorem dX8_addTrader_62 : decode cX8_addTrader 62 = .ok (.iconst 1, 1) := by decide +kernel
theorem dX8_addTrader_63 : decode cX8_addTrader 63 = .ok (.iadd, 1) := by decide +kernel
theorem dX8_addTrader_64 : decode cX8_addTrader 64 = .ok (.iastore, 1) := by decide +kernel
theorem dX8_addTrader_65 : decode cX8_addTrader 65 = .ok (.aload_n 0, 1) := by decide +kernel
theorem dX8_addTrader_66 : decode cX8_addTrader 66 = .ok (.iload_n 2, 1) := by decide +kernel
theorem dX8_addTrader_67 : decode cX8_addTrader 67 = .ok (.iconst 0, 1) := by decide +kernel
theorem dX8_addTrader_68 : decode cX8_addTrader 68 = .ok (.iload_n 1, 1) := by decide +kernel
theorem dX8_addTrader_69 : decode cX8_addTrader 69 = .ok (.invokevirtual 97, 3) := by decide +kernel
theorem dX8_addTrader_72 : decode cX8_addTrader 72 = .ok (.aload_n 0, 1) := by decide +kernel
theorem dX8_addTrader_73 : decode cX8_addTrader 73 = .ok (.iload_n 2, 1) := by decide +kernel
theorem dX8_addTrader_74 : decode cX8_addTrader 74 = .ok (.iconst 1, 1) := by decide +kernel
theorem dX8_addTrader_75 : decode cX8_addTrader 75 = .ok (.iconst 0, 1) := by decide +kernel
theorem dX8_addTrader_76 : decode cX8_addTrader 76 = .ok (.invokevirtual 97, 3) := by decide +kernel
theorem dX8_addTrader_79 : decode cX8_addTrader 79 = .ok (.aload_n 0, 1) := by decide +kernel
theorem dX8_addTrader_80 : decode cX8_addTrader 80 = .ok (.iload_n 2, 1) := by decide +kernel
theorem dX8_addTrader_81 : decode cX8_addTrader 81 = .ok (.iconst 2, 1) := by decide +kernel
theorem dX8_addTrader_82 : decode cX8_addTrader 82 = .ok (.iconst 0, 1) := by decide +kernel
theorem dX8_addTrader_83 : decode cX8_addTrader 83 = .ok (.invokevirtual 97, 3) := by decide +kernel
theorem dX8_addTrader_86 : decode cX8_addTrader 86 = .ok (.aload_n 0, 1) := by decide +kernel
theorem dX8_addTrader_87 : decode cX8_addTrader 87 = .ok (.getfield 7, 3) := by decide +kernel
theorem dX8_addTrader_90 : decode cX8_addTrader 90 = .ok (.sipush 136, 3) := by decide +kernel
theorem dX8_addTrader_93 : decode cX8_addTrader 93 = .ok (.dup2, 1) := by decide +kernel
theorem dX8_addTrader_94 : decode cX8_addTrader 94 = .ok (.iaload, 1) := by decide +kernel
theorem dX8_addTrader_95 : decode cX8_addTrader 95 = .ok (.iload_n 1, 1) := by decide +kernel
theorem dX8_addTrader_96 : decode cX8_addTrader 96 = .ok (.iadd, 1) := by decide +kernel
theorem dX8_addTrader_97 : decode cX8_addTrader 97 = .ok (.iastore, 1) := by decide +kernel
theorem dX8_addTrader_98 : decode cX8_addTrader 98 = .ok (.iload_n 2, 1) := by decide +kernel
theorem dX8_addTrader_99 : decode cX8_addTrader 99 = .ok (.ireturn, 1) := by decide +kernel
theorem dX8_ends_0 : decode cX8_ends 0 = .ok (.aload_n 0, 1) := by decide +kernel
theorem dX8_ends_1 : decode cX8_ends 1 = .ok (.getfield 7, 3) := by decide +kernel
theorem dX8_ends_4 : decode cX8_ends 4 = .ok (.iconst 2, 1) := by decide +kernel
theorem dX8_ends_5 : decode cX8_ends 5 = .ok (.dup2, 1) := by decide +kernel
theorem dX8_ends_6 : decode cX8_ends 6 = .ok (.iaload, 1) := by decide +kernel
theorem dX8_ends_7 : decode cX8_ends 7 = .ok (.iconst 1, 1) := by decide +kernel
theorem dX8_ends_8 : decode cX8_ends 8 = .ok (.isub, 1) := by decide +kernel
theorem dX8_ends_9 : decode cX8_ends 9 = .ok (.iastore, 1) := by decide +kernel
theorem dX8_ends_10 : decode cX8_ends 10 = .ok (.bipush 36, 2) := by decide +kernel
theorem dX8_ends_12 : decode cX8_ends 12 = .ok (.iconst 5, 1) := by decide +kernel
theorem dX8_ends_13 : decode cX8_ends 13 = .ok (.iload_n 1, 1) := by decide +kernel
theorem dX8_ends_14 : decode cX8_ends 14 = .ok (.imul, 1) := by decide +kernel
theorem dX8_ends_15 : decode cX8_ends 15 = .ok (.iadd, 1) := by decide +kernel
theorem dX8_ends_16 : decode cX8_ends 16 = .ok (.istore_n 2, 1) := by decide +kernel
theorem dX8_ends_17 : decode cX8_ends 17 = .ok (.iload_n 2, 1) := by decide +kernel
theorem dX8_ends_18 : decode cX8_ends 18 = .ok (.bipush 36, 2) := by decide +kernel
theorem dX8_ends_20 : decode cX8_ends 20 = .ok (.iconst 5, 1) := by decide +kernel
theorem dX8_ends_21 : decode cX8_ends 21 = .ok (.aload_n 0, 1) := by decide +kernel
theorem dX8_ends_22 : decode cX8_ends 22 = .ok (.getfield 7, 3) := by decide +kernel
theorem dX8_ends_25 : decode cX8_ends 25 = .ok (.iconst 2, 1) := by decide +kernel
theorem dX8_ends_26 : decode cX8_ends 26 = .ok (.iaload, 1) := by decide +kernel
theorem dX8_ends_27 : decode cX8_ends 27 = .ok (.imul, 1) := by decide +kernel
theorem dX8_ends_28 : decode cX8_ends 28 = .ok (.iadd, 1) := by decide +kernel
theorem dX8_ends_29 : decode cX8_ends 29 = .ok (.if_icmp .ge 23, 3) := by decide +kernel
theorem dX8_ends_32 : decode cX8_ends 32 = .ok (.aload_n 0, 1) := by decide +kernel
theorem dX8_ends_33 : decode cX8_ends 33 = .ok (.getfield 7, 3) := by decide +kernel
theorem dX8_ends_36 : decode cX8_ends 36 = .ok (.iload_n 2, 1) := by decide +kernel
theorem dX8_ends_37 : decode cX8_ends 37 = .ok (.aload_n 0, 1) := by decide +kernel
theorem dX8_ends_38 : decode cX8_ends 38 = .ok (.getfield 7, 3) := by decide +kernel
theorem dX8_ends_41 : decode cX8_ends 41 = .ok (.iload_n 2, 1) := by decide +kernel
theorem dX8_ends_42 : decode cX8_ends 42 = .ok (.iconst 5, 1) := by decide +kernel
theorem dX8_ends_43 : decode cX8_ends 43 = .ok (.iadd, 1) := by decide +kernel
theorem dX8_ends_44 : decode cX8_ends 44 = .ok (.iaload, 1) := by decide +kernel
theorem dX8_ends_45 : decode cX8_ends 45 = .ok (.iastore, 1) := by decide +kernel
theorem dX8_ends_46 : decode cX8_ends 46 = .ok (.iinc 2 1, 3) := by decide +kernel
theorem dX8_ends_49 : decode cX8_ends 49 = .ok (.goto (-32), 3) := by decide +kernel
theorem dX8_ends_52 : decode cX8_ends 52 = .ok (.iconst 0, 1) := by decide +kernel
theorem dX8_ends_53 : decode cX8_ends 53 = .ok (.istore_n 2, 1) := by decide +kernel
theorem dX8_ends_54 : decode cX8_ends 54 = .ok (.iload_n 2, 1) := by decide +kernel
theorem dX8_ends_55 : decode cX8_ends 55 = .ok (.iconst 5, 1) := by decide +kernel
theorem dX8_ends_56 : decode cX8_ends 56 = .ok (.if_icmp .ge 21, 3) := by decide +kernel
theorem dX8_ends_59 : decode cX8_ends 59 = .ok (.aload_n 0, 1) := by decide +kernel
theorem dX8_ends_60 : decode cX8_ends 60 = .ok (.aload_n 0, 1) := by decide +kernel
theorem dX8_ends_61 : decode cX8_ends 61 = .ok (.getfield 7, 3) := by decide +kernel
theorem dX8_ends_64 : decode cX8_ends 64 = .ok (.iconst 2, 1) := by decide +kernel
theorem dX8_ends_65 : decode cX8_ends 65 = .ok (.iaload, 1) := by decide +kernel
theorem dX8_ends_66 : decode cX8_ends 66 = .ok (.iload_n 2, 1) := by decide +kernel
theorem dX8_ends_67 : decode cX8_ends 67 = .ok (.iconst 0, 1) := by decide +kernel
theorem dX8_ends_68 : decode cX8_ends 68 = .ok (.invokevirtual 101, 3) := by decide +kernel
theorem dX8_ends_71 : decode cX8_ends 71 = .ok (.iinc 2 1, 3) := by decide +kernel
theorem dX8_ends_74 : decode cX8_ends 74 = .ok (.goto (-20), 3) := by decide +kernel
theorem dX8_ends_77 : decode cX8_ends 77 = .ok (.return_, 1) := by decide +kernel
theorem dX8_places_0 : decode cX8_places 0 = .ok (.aload_n 0, 1) := by decide +kernel
theorem dX8_places_1 : decode cX8_places 1 = .ok (.getfield 7, 3) := by decide +kernel
theorem dX8_places_4 : decode cX8_places 4 = .ok (.iconst 2, 1) := by decide +kernel
theorem dX8_places_5 : decode cX8_places 5 = .ok (.iaload, 1) := by decide +kernel
theorem dX8_places_6 : decode cX8_places 6 = .ok (.istore 6, 2) := by decide +kernel
theorem dX8_places_8 : decode cX8_places 8 = .ok (.aload_n 0, 1) := by decide +kernel
theorem dX8_places_9 : decode cX8_places 9 = .ok (.getfield 7, 3) := by decide +kernel
theorem dX8_places_12 : decode cX8_places 12 = .ok (.iconst 2, 1) := by decide +kernel
theorem dX8_places_13 : decode cX8_places 13 = .ok (.dup2, 1) := by decide +kernel
theorem dX8_places_14 : decode cX8_places 14 = .ok (.iaload, 1) := by decide +kernel
theorem dX8_places_15 : decode cX8_places 15 = .ok (.iconst 1, 1) := by decide +kernel
theorem dX8_places_16 : decode cX8_places 16 = .ok (.iadd, 1) := by decide +kernel
theorem dX8_places_17 : decode cX8_places 17 = .ok (.iastore, 1) := by decide +kernel
theorem dX8_places_18 : decode cX8_places 18 = .ok (.aload_n 0, 1) := by decide +kernel
theorem dX8_places_19 : decode cX8_places 19 = .ok (.iload 6, 2) := by decide +kernel
theorem dX8_places_21 : decode cX8_places 21 = .ok (.iconst 0, 1) := by decide +kernel
theorem dX8_places_22 : decode cX8_places 22 = .ok (.iload_n 1, 1) := by decide +kernel
theorem dX8_places_23 : decode cX8_places 23 = .ok (.invokevirtual 101, 3) := by decide +kernel
theorem dX8_places_26 : decode cX8_places 26 = .ok (.aload_n 0, 1) := by decide +kernel
theorem dX8_places_27 : decode cX8_places 27 = .ok (.iload 6, 2) := by decide +kernel
theorem dX8_places_29 : decode cX8_places 29 = .ok (.iconst 1, 1) := by decide +kernel
theorem dX8_places_30 : decode cX8_places 30 = .ok (.iload_n 2, 1) := by decide +kernel
theorem dX8_places_31 : decode cX8_places 31 = .ok (.invokevirtual 101, 3) := by decide +kernel
theorem dX8_places_34 : decode cX8_places 34 = .ok (.aload_n 0, 1) := by decide +kernel
theorem dX8_places_35 : decode cX8_places 35 = .ok (.iload 6, 2) := by decide +kernel
theorem dX8_places_37 : decode cX8_places 37 = .ok (.iconst 2, 1) := by decide +kernel
theorem dX8_places_38 : decode cX8_places 38 = .ok (.iload_n 3, 1) := by decide +kernel
theorem dX8_places_39 : decode cX8_places 39 = .ok (.invokevirtual 101, 3) := by decide +kernel
theorem dX8_places_42 : decode cX8_places 42 = .ok (.aload_n 0, 1) := by decide +kernel
theorem dX8_places_43 : decode cX8_places 43 = .ok (.iload 6, 2) := by decide +kernel
theorem dX8_places_45 : decode cX8_places 45 = .ok (.iconst 3, 1) := by decide +kernel
theorem dX8_places_46 : decode cX8_places 46 = .ok (.iload 4, 2) := by decide +kernel
theorem dX8_places_48 : decode cX8_places 48 = .ok (.invokevirtual 101, 3) := by decide +kernel
theorem dX8_places_51 : decode cX8_places 51 = .ok (.aload_n 0, 1) := by decide +kernel
theorem dX8_places_52 : decode cX8_places 52 = .ok (.iload 6, 2) := by decide +kernel
theorem dX8_places_54 : decode cX8_places 54 = .ok (.iconst 4, 1) := by decide +kernel
theorem dX8_places_55 : decode cX8_places 55 = .ok (.aload_n 0, 1) := by decide +kernel
theorem dX8_places_56 : decode cX8_places 56 = .ok (.getfield 7, 3) := by decide +kernel
theorem dX8_places_59 : decode cX8_places 59 = .ok (.iconst 3, 1) := by decide +kernel
theorem dX8_places_60 : decode cX8_places 60 = .ok (.iaload, 1) := by decide +kernel
theorem dX8_places_61 : decode cX8_places 61 = .ok (.iload 5, 2) := by decide +kernel
theorem dX8_places_63 : decode cX8_places 63 = .ok (.iadd, 1) := by decide +kernel
theorem dX8_places_64 : decode cX8_places 64 = .ok (.invokevirtual 101, 3) := by decide +kernel
theorem dX8_places_67 : decode cX8_places 67 = .ok (.iload 6, 2) := by decide +kernel
theorem dX8_places_69 : decode cX8_places 69 = .ok (.ireturn, 1) := by decide +kernel
theorem dX8_isShort_0 : decode cX8_isShort 0 = .ok (.aload_n 0, 1) := by decide +kernel
theorem dX8_isShort_1 : decode cX8_isShort 1 = .ok (.iload_n 1, 1) := by decide +kernel
theorem dX8_isShort_2 : decode cX8_isShort 2 = .ok (.iconst 0, 1) := by decide +kernel
theorem dX8_isShort_3 : decode cX8_isShort 3 = .ok (.invokevirtual 72, 3) := by decide +kernel
theorem dX8_isShort_6 : decode cX8_isShort 6 = .ok (.iload_n 2, 1) := by decide +kernel
theorem dX8_isShort_7 : decode cX8_isShort 7 = .ok (.isub, 1) := by decide +kernel
theorem dX8_isShort_8 : decode cX8_isShort 8 = .ok (.aload_n 0, 1) := by decide +kernel
theorem dX8_isShort_9 : decode cX8_isShort 9 = .ok (.iload_n 1, 1) := by decide +kernel
theorem dX8_isShort_10 : decode cX8_isShort 10 = .ok (.invokevirtual 104, 3) := by decide +kernel
theorem dX8_isShort_13 : decode cX8_isShort 13 = .ok (.if_icmp .ge 7, 3) := by decide +kernel
theorem dX8_isShort_16 : decode cX8_isShort 16 = .ok (.iconst 1, 1) := by decide +kernel
theorem dX8_isShort_17 : decode cX8_isShort 17 = .ok (.goto 4, 3) := by decide +kernel
theorem dX8_isShort_20 : decode cX8_isShort 20 = .ok (.iconst 0, 1) := by decide +kernel
theorem dX8_isShort_21 : decode cX8_isShort 21 = .ok (.ireturn, 1) := by decide +kernel
theorem dX8_trade_0 : decode cX8_trade 0 = .ok (.aload_n 0, 1) := by decide +kernel
theorem dX8_trade_1 : decode cX8_trade 1 = .ok (.aload_n 0, 1) := by decide +kernel
theorem dX8_trade_2 : decode cX8_trade 2 = .ok (.iload_n 1, 1) := by decide +kernel
theorem dX8_trade_3 : decode cX8_trade 3 = .ok (.invokevirtual 107, 3) := by decide +kernel
theorem dX8_trade_6 : decode cX8_trade 6 = .ok (.ifCond .eq 19, 3) := by decide +kernel
theorem dX8_trade_9 : decode cX8_trade 9 = .ok (.aload_n 0, 1) := by decide +kernel
theorem dX8_trade_10 : decode cX8_trade 10 = .ok (.iload_n 2, 1) := by decide +kernel
theorem dX8_trade_11 : decode cX8_trade 11 = .ok (.invokevirtual 107, 3) := by decide +kernel
theorem dX8_trade_14 : decode cX8_trade 14 = .ok (.ifCond .eq 11, 3) := by decide +kernel
theorem dX8_trade_17 : decode cX8_trade 17 = .ok (.aload_n 0, 1) := by decide +kernel
theorem dX8_trade_18 : decode cX8_trade 18 = .ok (.iload_n 3, 1) := by decide +kernel
theorem dX8_trade_19 : decode cX8_trade 19 = .ok (.invokevirtual 110, 3) := by decide +kernel
theorem dX8_trade_22 : decode cX8_trade 22 = .ok (.ifCond .ne 7, 3) := by decide +kernel
theorem dX8_trade_25 : decode cX8_trade 25 = .ok (.iconst 1, 1) := by decide +kernel
theorem dX8_trade_26 : decode cX8_trade 26 = .ok (.goto 35, 3) := by decide +kernel
theorem dX8_trade_29 : decode cX8_trade 29 = .ok (.iload_n 1, 1) := by decide +kernel
theorem dX8_trade_30 : decode cX8_trade 30 = .ok (.iload_n 2, 1) := by decide +kernel
theorem dX8_trade_31 : decode cX8_trade 31 = .ok (.if_icmp .eq 25, 3) := by decide +kernel
theorem dX8_trade_34 : decode cX8_trade 34 = .ok (.iload 4, 2) := by decide +kernel
theorem dX8_trade_36 : decode cX8_trade 36 = .ok (.iconst 1, 1) := by decide +kernel
theorem dX8_trade_37 : decode cX8_trade 37 = .ok (.bipush 20, 2) := by decide +kernel
theorem dX8_trade_39 : decode cX8_trade 39 = .ok (.invokestatic 68, 3) := by decide +kernel
theorem dX8_trade_42 : decode cX8_trade 42 = .ok (.ifCond .eq 14, 3) := by decide +kernel
theorem dX8_trade_45 : decode cX8_trade 45 = .ok (.iload 5, 2) := by decide +kernel
theorem dX8_trade_47 : decode cX8_trade 47 = .ok (.iconst 1, 1) := by decide +kernel
theorem dX8_trade_48 : decode cX8_trade 48 = .ok (.bipush 9, 2) := by decide +kernel
theorem dX8_trade_50 : decode cX8_trade 50 = .ok (.invokestatic 68, 3) := by decide +kernel
theorem dX8_trade_53 : decode cX8_trade 53 = .ok (.ifCond .ne 7, 3) := by decide +kernel
theorem dX8_trade_56 : decode cX8_trade 56 = .ok (.iconst 2, 1) := by decide +kernel
theorem dX8_trade_57 : decode cX8_trade 57 = .ok (.goto 4, 3) := by decide +kernel
theorem dX8_trade_60 : decode cX8_trade 60 = .ok (.iconst 0, 1) := by decide +kernel
theorem dX8_trade_61 : decode cX8_trade 61 = .ok (.invokevirtual 89, 3) := by decide +kernel
theorem dX8_trade_64 : decode cX8_trade 64 = .ok (.ifCond .eq 5, 3) := by decide +kernel
theorem dX8_trade_67 : decode cX8_trade 67 = .ok (.iconst 0, 1) := by decide +kernel
theorem dX8_trade_68 : decode cX8_trade 68 = .ok (.ireturn, 1) := by decide +kernel
theorem dX8_trade_69 : decode cX8_trade 69 = .ok (.aload_n 0, 1) := by decide +kernel
theorem dX8_trade_70 : decode cX8_trade 70 = .ok (.aload_n 0, 1) := by decide +kernel
theorem dX8_trade_71 : decode cX8_trade 71 = .ok (.getfield 7, 3) := by decide +kernel
theorem dX8_trade_74 : decode cX8_trade 74 = .ok (.iconst 2, 1) := by decide +kernel
theorem dX8_trade_75 : decode cX8_trade 75 = .ok (.iaload, 1) := by decide +kernel
theorem dX8_trade_76 : decode cX8_trade 76 = .ok (.bipush 20, 2) := by decide +kernel
theorem dX8_trade_78 : decode cX8_trade 78 = .ok (.if_icmp .eq 19, 3) := by decide +kernel
theorem dX8_trade_81 : decode cX8_trade 81 = .ok (.aload_n 0, 1) := by decide +kernel
theorem dX8_trade_82 : decode cX8_trade 82 = .ok (.iload_n 1, 1) := by decide +kernel
theorem dX8_trade_83 : decode cX8_trade 83 = .ok (.invokevirtual 113, 3) := by decide +kernel
theorem dX8_trade_86 : decode cX8_trade 86 = .ok (.ifCond .eq 11, 3) := by decide +kernel
theorem dX8_trade_89 : decode cX8_trade 89 = .ok (.aload_n 0, 1) := by decide +kernel
theorem dX8_trade_90 : decode cX8_trade 90 = .ok (.iload_n 2, 1) := by decide +kernel
theorem dX8_trade_91 : decode cX8_trade 91 = .ok (.invokevirtual 113, 3) := by decide +kernel
theorem dX8_trade_94 : decode cX8_trade 94 = .ok (.ifCond .ne 7, 3) := by decide +kernel
theorem dX8_trade_97 : decode cX8_trade 97 = .ok (.iconst 3, 1) := by decide +kernel
theorem dX8_trade_98 : decode cX8_trade 98 = .ok (.goto 4, 3) := by decide +kernel
theorem dX8_trade_101 : decode cX8_trade 101 = .ok (.iconst 0, 1) := by decide +kernel
theorem dX8_trade_102 : decode cX8_trade 102 = .ok (.invokevirtual 89, 3) := by decide +kernel
theorem dX8_trade_105 : decode cX8_trade 105 = .ok (.ifCond .eq 5, 3) := by decide +kernel
theorem dX8_trade_108 : decode cX8_trade 108 = .ok (.iconst 0, 1) := by decide +kernel
theorem dX8_trade_109 : decode cX8_trade 109 = .ok (.ireturn, 1) := by decide +kernel
theorem dX8_trade_110 : decode cX8_trade 110 = .ok (.aload_n 0, 1) := by decide +kernel
theorem dX8_trade_111 : decode cX8_trade 111 = .ok (.iload_n 1, 1) := by decide +kernel
theorem dX8_trade_112 : decode cX8_trade 112 = .ok (.iload_n 2, 1) := by decide +kernel
theorem dX8_trade_113 : decode cX8_trade 113 = .ok (.iload_n 3, 1) := by decide +kernel
theorem dX8_trade_114 : decode cX8_trade 114 = .ok (.iload 4, 2) := by decide +kernel
theorem dX8_trade_116 : decode cX8_trade 116 = .ok (.iload 5, 2) := by decide +kernel
theorem dX8_trade_118 : decode cX8_trade 118 = .ok (.invokevirtual 116, 3) := by decide +kernel
theorem dX8_trade_121 : decode cX8_trade 121 = .ok (.istore 6, 2) := by decide +kernel
theorem dX8_trade_123 : decode cX8_trade 123 = .ok (.aload_n 0, 1) := by decide +kernel
theorem dX8_trade_124 : decode cX8_trade 124 = .ok (.iload_n 1, 1) := by decide +kernel
theorem dX8_trade_125 : decode cX8_trade 125 = .ok (.iconst 0, 1) := by decide +kernel
theorem dX8_trade_126 : decode cX8_trade 126 = .ok (.invokevirtual 120, 3) := by decide +kernel
theorem dX8_trade_129 : decode cX8_trade 129 = .ok (.ifCond .ne 12, 3) := by decide +kernel
theorem dX8_trade_132 : decode cX8_trade 132 = .ok (.aload_n 0, 1) := by decide +kernel
theorem dX8_trade_133 : decode cX8_trade 133 = .ok (.iload_n 2, 1) := by decide +kernel
theorem dX8_trade_134 : decode cX8_trade 134 = .ok (.iconst 0, 1) := by decide +kernel
theorem dX8_trade_135 : decode cX8_trade 135 = .ok (.invokevirtual 120, 3) := by decide +kernel
theorem dX8_trade_138 : decode cX8_trade 138 = .ok (.ifCond .eq 7, 3) := by decide +kernel
theorem dX8_trade_141 : decode cX8_trade 141 = .ok (.iconst 1, 1) := by decide +kernel
theorem dX8_trade_142 : decode cX8_trade 142 = .ok (.goto 4, 3) := by decide +kernel
theorem dX8_trade_145 : decode cX8_trade 145 = .ok (.iconst 0, 1) := by decide +kernel
theorem dX8_trade_146 : decode cX8_trade 146 = .ok (.istore 7, 2) := by decide +kernel
theorem dX8_trade_148 : decode cX8_trade 148 = .ok (.aload_n 0, 1) := by decide +kernel
theorem dX8_trade_149 : decode cX8_trade 149 = .ok (.iload 6, 2) := by decide +kernel
theorem dX8_trade_151 : decode cX8_trade 151 = .ok (.invokevirtual 124, 3) := by decide +kernel
theorem dX8_trade_154 : decode cX8_trade 154 = .ok (.aload_n 0, 1) := by decide +kernel
theorem dX8_trade_155 : decode cX8_trade 155 = .ok (.iload 7, 2) := by decide +kernel
theorem dX8_trade_157 : decode cX8_trade 157 = .ok (.ifCond .eq 7, 3) := by decide +kernel
theorem dX8_trade_160 : decode cX8_trade 160 = .ok (.iconst 4, 1) := by decide +kernel
theorem dX8_trade_161 : decode cX8_trade 161 = .ok (.goto 4, 3) := by decide +kernel
theorem dX8_trade_164 : decode cX8_trade 164 = .ok (.iconst 0, 1) := by decide +kernel
theorem dX8_trade_165 : decode cX8_trade 165 = .ok (.invokevirtual 89, 3) := by decide +kernel
theorem dX8_trade_168 : decode cX8_trade 168 = .ok (.ifCond .eq 5, 3) := by decide +kernel
theorem dX8_trade_171 : decode cX8_trade 171 = .ok (.iconst 0, 1) := by decide +kernel
theorem dX8_trade_172 : decode cX8_trade 172 = .ok (.ireturn, 1) := by decide +kernel
theorem dX8_trade_173 : decode cX8_trade 173 = .ok (.aload_n 0, 1) := by decide +kernel
theorem dX8_trade_174 : decode cX8_trade 174 = .ok (.aload_n 0, 1) := by decide +kernel
theorem dX8_trade_175 : decode cX8_trade 175 = .ok (.getfield 7, 3) := by decide +kernel
theorem dX8_trade_178 : decode cX8_trade 178 = .ok (.invokevirtual 93, 3) := by decide +kernel
theorem dX8_trade_181 : decode cX8_trade 181 = .ok (.aload_n 0, 1) := by decide +kernel
theorem dX8_trade_182 : decode cX8_trade 182 = .ok (.iload_n 1, 1) := by decide +kernel
theorem dX8_trade_183 : decode cX8_trade 183 = .ok (.iload_n 2, 1) := by decide +kernel
theorem dX8_trade_184 : decode cX8_trade 184 = .ok (.iload_n 3, 1) := by decide +kernel
theorem dX8_trade_185 : decode cX8_trade 185 = .ok (.iload 4, 2) := by decide +kernel
theorem dX8_trade_187 : decode cX8_trade 187 = .ok (.iload 5, 2) := by decide +kernel
theorem dX8_trade_189 : decode cX8_trade 189 = .ok (.invokevirtual 116, 3) := by decide +kernel
theorem dX8_trade_192 : decode cX8_trade 192 = .ok (.ireturn, 1) := by decide +kernel
theorem dX8_setQuote_0 : decode cX8_setQuote 0 = .ok (.aload_n 0, 1) := by decide +kernel
theorem dX8_setQuote_1 : decode cX8_setQuote 1 = .ok (.aload_n 0, 1) := by decide +kernel
theorem dX8_setQuote_2 : decode cX8_setQuote 2 = .ok (.iload_n 1, 1) := by decide +kernel
theorem dX8_setQuote_3 : decode cX8_setQuote 3 = .ok (.invokevirtual 110, 3) := by decide +kernel
theorem dX8_setQuote_6 : decode cX8_setQuote 6 = .ok (.ifCond .ne 7, 3) := by decide +kernel
theorem dX8_setQuote_9 : decode cX8_setQuote 9 = .ok (.iconst 1, 1) := by decide +kernel
theorem dX8_setQuote_10 : decode cX8_setQuote 10 = .ok (.goto 18, 3) := by decide +kernel
theorem dX8_setQuote_13 : decode cX8_setQuote 13 = .ok (.iload_n 2, 1) := by decide +kernel
theorem dX8_setQuote_14 : decode cX8_setQuote 14 = .ok (.iconst 1, 1) := by decide +kernel
theorem dX8_setQuote_15 : decode cX8_setQuote 15 = .ok (.bipush 99, 2) := by decide +kernel
theorem dX8_setQuote_17 : decode cX8_setQuote 17 = .ok (.invokestatic 68, 3) := by decide +kernel
theorem dX8_setQuote_20 : decode cX8_setQuote 20 = .ok (.ifCond .eq 7, 3) := by decide +kernel
theorem dX8_setQuote_23 : decode cX8_setQuote 23 = .ok (.iconst 0, 1) := by decide +kernel
theorem dX8_setQuote_24 : decode cX8_setQuote 24 = .ok (.goto 4, 3) := by decide +kernel
theorem dX8_setQuote_27 : decode cX8_setQuote 27 = .ok (.iconst 2, 1) := by decide +kernel
theorem dX8_setQuote_28 : decode cX8_setQuote 28 = .ok (.invokevirtual 89, 3) := by decide +kernel
theorem dX8_setQuote_31 : decode cX8_setQuote 31 = .ok (.ifCond .eq 5, 3) := by decide +kernel
theorem dX8_setQuote_34 : decode cX8_setQuote 34 = .ok (.iconst 0, 1) := by decide +kernel
theorem dX8_setQuote_35 : decode cX8_setQuote 35 = .ok (.ireturn, 1) := by decide +kernel
theorem dX8_setQuote_36 : decode cX8_setQuote 36 = .ok (.aload_n 0, 1) := by decide +kernel
theorem dX8_setQuote_37 : decode cX8_setQuote 37 = .ok (.iload_n 1, 1) := by decide +kernel
theorem dX8_setQuote_38 : decode cX8_setQuote 38 = .ok (.iconst 1, 1) := by decide +kernel
theorem dX8_setQuote_39 : decode cX8_setQuote 39 = .ok (.invokevirtual 86, 3) := by decide +kernel
theorem dX8_setQuote_42 : decode cX8_setQuote 42 = .ok (.istore_n 3, 1) := by decide +kernel
theorem dX8_setQuote_43 : decode cX8_setQuote 43 = .ok (.aload_n 0, 1) := by decide +kernel
theorem dX8_setQuote_44 : decode cX8_setQuote 44 = .ok (.aload_n 0, 1) := by decide +kernel
theorem dX8_setQuote_45 : decode cX8_setQuote 45 = .ok (.getfield 7, 3) := by decide +kernel
theorem dX8_setQuote_48 : decode cX8_setQuote 48 = .ok (.invokevirtual 93, 3) := by decide +kernel
theorem dX8_setQuote_51 : decode cX8_setQuote 51 = .ok (.aload_n 0, 1) := by decide +kernel
theorem dX8_setQuote_52 : decode cX8_setQuote 52 = .ok (.getfield 7, 3) := by decide +kernel
theorem dX8_setQuote_55 : decode cX8_setQuote 55 = .ok (.bipush 6, 2) := by decide +kernel
theorem dX8_setQuote_57 : decode cX8_setQuote 57 = .ok (.iconst 3, 1) := by decide +kernel
theorem dX8_setQuote_58 : decode cX8_setQuote 58 = .ok (.iload_n 1, 1) := by decide +kernel
theorem dX8_setQuote_59 : decode cX8_setQuote 59 = .ok (.imul, 1) := by decide +kernel
theorem dX8_setQuote_60 : decode cX8_setQuote 60 = .ok (.iadd, 1) := by decide +kernel
theorem dX8_setQuote_61 : decode cX8_setQuote 61 = .ok (.iconst 1, 1) := by decide +kernel
theorem dX8_setQuote_62 : decode cX8_setQuote 62 = .ok (.iadd, 1) := by decide +kernel
theorem dX8_setQuote_63 : decode cX8_setQuote 63 = .ok (.iload_n 2, 1) := by decide +kernel
theorem dX8_setQuote_64 : decode cX8_setQuote 64 = .ok (.iastore, 1) := by decide +kernel
theorem dX8_setQuote_65 : decode cX8_setQuote 65 = .ok (.iload_n 3, 1) := by decide +kernel
theorem dX8_setQuote_66 : decode cX8_setQuote 66 = .ok (.ireturn, 1) := by decide +kernel
theorem dX8_goesWith_0 : decode cX8_goesWith 0 = .ok (.iconst 0, 1) := by decide +kernel
theorem dX8_goesWith_1 : decode cX8_goesWith 1 = .ok (.istore 4, 2) := by decide +kernel
theorem dX8_goesWith_3 : decode cX8_goesWith 3 = .ok (.iconst 0, 1) := by decide +kernel
theorem dX8_goesWith_4 : decode cX8_goesWith 4 = .ok (.istore 5, 2) := by decide +kernel
theorem dX8_goesWith_6 : decode cX8_goesWith 6 = .ok (.iload 5, 2) := by decide +kernel
theorem dX8_goesWith_8 : decode cX8_goesWith 8 = .ok (.aload_n 0, 1) := by decide +kernel
theorem dX8_goesWith_9 : decode cX8_goesWith 9 = .ok (.getfield 7, 3) := by decide +kernel
theorem dX8_goesWith_12 : decode cX8_goesWith 12 = .ok (.iconst 2, 1) := by decide +kernel
theorem dX8_goesWith_13 : decode cX8_goesWith 13 = .ok (.iaload, 1) := by decide +kernel
theorem dX8_goesWith_14 : decode cX8_goesWith 14 = .ok (.if_icmp .ge 94, 3) := by decide +kernel
theorem dX8_goesWith_17 : decode cX8_goesWith 17 = .ok (.aload_n 0, 1) := by decide +kernel
theorem dX8_goesWith_18 : decode cX8_goesWith 18 = .ok (.iload 5, 2) := by decide +kernel
theorem dX8_goesWith_20 : decode cX8_goesWith 20 = .ok (.iconst 2, 1) := by decide +kernel
theorem dX8_goesWith_21 : decode cX8_goesWith 21 = .ok (.invokevirtual 76, 3) := by decide +kernel
theorem dX8_goesWith_24 : decode cX8_goesWith 24 = .ok (.iload_n 3, 1) := by decide +kernel
theorem dX8_goesWith_25 : decode cX8_goesWith 25 = .ok (.if_icmp .eq 6, 3) := by decide +kernel
theorem dX8_goesWith_28 : decode cX8_goesWith 28 = .ok (.goto 74, 3) := by decide +kernel
theorem dX8_goesWith_31 : decode cX8_goesWith 31 = .ok (.iload 4, 2) := by decide +kernel
theorem dX8_goesWith_33 : decode cX8_goesWith 33 = .ok (.aload_n 0, 1) := by decide +kernel
theorem dX8_goesWith_34 : decode cX8_goesWith 34 = .ok (.iload 5, 2) := by decide +kernel
theorem dX8_goesWith_36 : decode cX8_goesWith 36 = .ok (.iconst 0, 1) := by decide +kernel
theorem dX8_goesWith_37 : decode cX8_goesWith 37 = .ok (.invokevirtual 76, 3) := by decide +kernel
theorem dX8_goesWith_40 : decode cX8_goesWith 40 = .ok (.iload_n 2, 1) := by decide +kernel
theorem dX8_goesWith_41 : decode cX8_goesWith 41 = .ok (.if_icmp .ne 24, 3) := by decide +kernel
theorem dX8_goesWith_44 : decode cX8_goesWith 44 = .ok (.aload_n 0, 1) := by decide +kernel
theorem dX8_goesWith_45 : decode cX8_goesWith 45 = .ok (.iload 5, 2) := by decide +kernel
theorem dX8_goesWith_47 : decode cX8_goesWith 47 = .ok (.iconst 1, 1) := by decide +kernel
theorem dX8_goesWith_48 : decode cX8_goesWith 48 = .ok (.invokevirtual 76, 3) := by decide +kernel
theorem dX8_goesWith_51 : decode cX8_goesWith 51 = .ok (.iload_n 1, 1) := by decide +kernel
theorem dX8_goesWith_52 : decode cX8_goesWith 52 = .ok (.if_icmp .ne 13, 3) := by decide +kernel
theorem dX8_goesWith_55 : decode cX8_goesWith 55 = .ok (.aload_n 0, 1) := by decide +kernel
theorem dX8_goesWith_56 : decode cX8_goesWith 56 = .ok (.iload 5, 2) := by decide +kernel
theorem dX8_goesWith_58 : decode cX8_goesWith 58 = .ok (.iconst 3, 1) := by decide +kernel
theorem dX8_goesWith_59 : decode cX8_goesWith 59 = .ok (.invokevirtual 76, 3) := by decide +kernel
theorem dX8_goesWith_62 : decode cX8_goesWith 62 = .ok (.goto 37, 3) := by decide +kernel
theorem dX8_goesWith_65 : decode cX8_goesWith 65 = .ok (.aload_n 0, 1) := by decide +kernel
theorem dX8_goesWith_66 : decode cX8_goesWith 66 = .ok (.iload 5, 2) := by decide +kernel
theorem dX8_goesWith_68 : decode cX8_goesWith 68 = .ok (.iconst 1, 1) := by decide +kernel
theorem dX8_goesWith_69 : decode cX8_goesWith 69 = .ok (.invokevirtual 76, 3) := by decide +kernel
theorem dX8_goesWith_72 : decode cX8_goesWith 72 = .ok (.iload_n 2, 1) := by decide +kernel
theorem dX8_goesWith_73 : decode cX8_goesWith 73 = .ok (.if_icmp .ne 25, 3) := by decide +kernel
theorem dX8_goesWith_76 : decode cX8_goesWith 76 = .ok (.aload_n 0, 1) := by decide +kernel
theorem dX8_goesWith_77 : decode cX8_goesWith 77 = .ok (.iload 5, 2) := by decide +kernel
theorem dX8_goesWith_79 : decode cX8_goesWith 79 = .ok (.iconst 0, 1) := by decide +kernel
theorem dX8_goesWith_80 : decode cX8_goesWith 80 = .ok (.invokevirtual 76, 3) := by decide +kernel
theorem dX8_goesWith_83 : decode cX8_goesWith 83 = .ok (.iload_n 1, 1) := by decide +kernel
theorem dX8_goesWith_84 : decode cX8_goesWith 84 = .ok (.if_icmp .ne 14, 3) := by decide +kernel
theorem dX8_goesWith_87 : decode cX8_goesWith 87 = .ok (.aload_n 0, 1) := by decide +kernel
theorem dX8_goesWith_88 : decode cX8_goesWith 88 = .ok (.iload 5, 2) := by decide +kernel
theorem dX8_goesWith_90 : decode cX8_goesWith 90 = .ok (.iconst 3, 1) := by decide +kernel
theorem dX8_goesWith_91 : decode cX8_goesWith 91 = .ok (.invokevirtual 76, 3) := by decide +kernel
theorem dX8_goesWith_94 : decode cX8_goesWith 94 = .ok (.ineg, 1) := by decide +kernel
theorem dX8_goesWith_95 : decode cX8_goesWith 95 = .ok (.goto 4, 3) := by decide +kernel
theorem dX8_goesWith_98 : decode cX8_goesWith 98 = .ok (.iconst 0, 1) := by decide +kernel
theorem dX8_goesWith_99 : decode cX8_goesWith 99 = .ok (.iadd, 1) := by decide +kernel
theorem dX8_goesWith_100 : decode cX8_goesWith 100 = .ok (.istore 4, 2) := by decide +kernel
theorem dX8_goesWith_102 : decode cX8_goesWith 102 = .ok (.iinc 5 1, 3) := by decide +kernel
theorem dX8_goesWith_105 : decode cX8_goesWith 105 = .ok (.goto (-99), 3) := by decide +kernel
theorem dX8_goesWith_108 : decode cX8_goesWith 108 = .ok (.iload 4, 2) := by decide +kernel
theorem dX8_goesWith_110 : decode cX8_goesWith 110 = .ok (.ireturn, 1) := by decide +kernel
theorem dX8_laysWay_0 : decode cX8_laysWay 0 = .ok (.iload_n 2, 1) := by decide +kernel
theorem dX8_laysWay_1 : decode cX8_laysWay 1 = .ok (.istore_n 3, 1) := by decide +kernel
theorem dX8_laysWay_2 : decode cX8_laysWay 2 = .ok (.iconst 0, 1) := by decide +kernel
theorem dX8_laysWay_3 : decode cX8_laysWay 3 = .ok (.istore 4, 2) := by decide +kernel
theorem dX8_laysWay_5 : decode cX8_laysWay 5 = .ok (.aload_n 0, 1) := by decide +kernel
theorem dX8_laysWay_6 : decode cX8_laysWay 6 = .ok (.getfield 7, 3) := by decide +kernel
theorem dX8_laysWay_9 : decode cX8_laysWay 9 = .ok (.iconst 0, 1) := by decide +kernel
theorem dX8_laysWay_10 : decode cX8_laysWay 10 = .ok (.iaload, 1) := by decide +kernel
theorem dX8_laysWay_11 : decode cX8_laysWay 11 = .ok (.iconst 1, 1) := by decide +kernel
theorem dX8_laysWay_12 : decode cX8_laysWay 12 = .ok (.isub, 1) := by decide +kernel
theorem dX8_laysWay_13 : decode cX8_laysWay 13 = .ok (.istore 5, 2) := by decide +kernel
theorem dX8_laysWay_15 : decode cX8_laysWay 15 = .ok (.iload 5, 2) := by decide +kernel
theorem dX8_laysWay_17 : decode cX8_laysWay 17 = .ok (.ifCond .lt 102, 3) := by decide +kernel
theorem dX8_laysWay_20 : decode cX8_laysWay 20 = .ok (.iload_n 3, 1) := by decide +kernel
theorem dX8_laysWay_21 : decode cX8_laysWay 21 = .ok (.bipush 6, 2) := by decide +kernel
theorem dX8_laysWay_23 : decode cX8_laysWay 23 = .ok (.irem, 1) := by decide +kernel
theorem dX8_laysWay_24 : decode cX8_laysWay 24 = .ok (.istore 6, 2) := by decide +kernel
theorem dX8_laysWay_26 : decode cX8_laysWay 26 = .ok (.iload_n 3, 1) := by decide +kernel
theorem dX8_laysWay_27 : decode cX8_laysWay 27 = .ok (.bipush 6, 2) := by decide +kernel
theorem dX8_laysWay_29 : decode cX8_laysWay 29 = .ok (.idiv, 1) := by decide +kernel
theorem dX8_laysWay_30 : decode cX8_laysWay 30 = .ok (.istore_n 3, 1) := by decide +kernel
theorem dX8_laysWay_31 : decode cX8_laysWay 31 = .ok (.aload_n 0, 1) := by decide +kernel
theorem dX8_laysWay_32 : decode cX8_laysWay 32 = .ok (.getfield 36, 3) := by decide +kernel
theorem dX8_laysWay_35 : decode cX8_laysWay 35 = .ok (.iload 5, 2) := by decide +kernel
theorem dX8_laysWay_37 : decode cX8_laysWay 37 = .ok (.iconst (-1), 1) := by decide +kernel
theorem dX8_laysWay_38 : decode cX8_laysWay 38 = .ok (.iastore, 1) := by decide +kernel
theorem dX8_laysWay_39 : decode cX8_laysWay 39 = .ok (.aload_n 0, 1) := by decide +kernel
theorem dX8_laysWay_40 : decode cX8_laysWay 40 = .ok (.iload_n 1, 1) := by decide +kernel
theorem dX8_laysWay_41 : decode cX8_laysWay 41 = .ok (.iload 5, 2) := by decide +kernel
theorem dX8_laysWay_43 : decode cX8_laysWay 43 = .ok (.invokevirtual 79, 3) := by decide +kernel
theorem dX8_laysWay_46 : decode cX8_laysWay 46 = .ok (.ifCond .ne 10, 3) := by decide +kernel
theorem dX8_laysWay_49 : decode cX8_laysWay 49 = .ok (.iload 6, 2) := by decide +kernel
theorem dX8_laysWay_51 : decode cX8_laysWay 51 = .ok (.ifCond .le 62, 3) := by decide +kernel
theorem dX8_laysWay_54 : decode cX8_laysWay 54 = .ok (.iconst 0, 1) := by decide +kernel
theorem dX8_laysWay_55 : decode cX8_laysWay 55 = .ok (.ireturn, 1) := by decide +kernel
theorem dX8_laysWay_56 : decode cX8_laysWay 56 = .ok (.iload 6, 2) := by decide +kernel
theorem dX8_laysWay_58 : decode cX8_laysWay 58 = .ok (.aload_n 0, 1) := by decide +kernel
theorem dX8_laysWay_59 : decode cX8_laysWay 59 = .ok (.getfield 7, 3) := by decide +kernel
theorem dX8_laysWay_62 : decode cX8_laysWay 62 = .ok (.iconst 1, 1) := by decide +kernel
theorem dX8_laysWay_63 : decode cX8_laysWay 63 = .ok (.iaload, 1) := by decide +kernel
theorem dX8_laysWay_64 : decode cX8_laysWay 64 = .ok (.if_icmp .ge 29, 3) := by decide +kernel
theorem dX8_laysWay_67 : decode cX8_laysWay 67 = .ok (.iload 6, 2) := by decide +kernel
theorem dX8_laysWay_69 : decode cX8_laysWay 69 = .ok (.iload_n 1, 1) := by decide +kernel
theorem dX8_laysWay_70 : decode cX8_laysWay 70 = .ok (.if_icmp .eq 23, 3) := by decide +kernel
theorem dX8_laysWay_73 : decode cX8_laysWay 73 = .ok (.aload_n 0, 1) := by decide +kernel
theorem dX8_laysWay_74 : decode cX8_laysWay 74 = .ok (.iload 6, 2) := by decide +kernel
theorem dX8_laysWay_76 : decode cX8_laysWay 76 = .ok (.invokevirtual 113, 3) := by decide +kernel
theorem dX8_laysWay_79 : decode cX8_laysWay 79 = .ok (.ifCond .eq 14, 3) := by decide +kernel
theorem dX8_laysWay_82 : decode cX8_laysWay 82 = .ok (.iload 4, 2) := by decide +kernel
theorem dX8_laysWay_84 : decode cX8_laysWay 84 = .ok (.iload 6, 2) := by decide +kernel
theorem dX8_laysWay_86 : decode cX8_laysWay 86 = .ok (.ishr, 1) := by decide +kernel
theorem dX8_laysWay_87 : decode cX8_laysWay 87 = .ok (.iconst 1, 1) := by decide +kernel
theorem dX8_laysWay_88 : decode cX8_laysWay 88 = .ok (.iand, 1) := by decide +kernel
theorem dX8_laysWay_89 : decode cX8_laysWay 89 = .ok (.iconst 1, 1) := by decide +kernel
theorem dX8_laysWay_90 : decode cX8_laysWay 90 = .ok (.if_icmp .ne 5, 3) := by decide +kernel
theorem dX8_laysWay_93 : decode cX8_laysWay 93 = .ok (.iconst 0, 1) := by decide +kernel
theorem dX8_laysWay_94 : decode cX8_laysWay 94 = .ok (.ireturn, 1) := by decide +kernel
theorem dX8_laysWay_95 : decode cX8_laysWay 95 = .ok (.iload 4, 2) := by decide +kernel
theorem dX8_laysWay_97 : decode cX8_laysWay 97 = .ok (.iconst 1, 1) := by decide +kernel
theorem dX8_laysWay_98 : decode cX8_laysWay 98 = .ok (.iload 6, 2) := by decide +kernel
theorem dX8_laysWay_100 : decode cX8_laysWay 100 = .ok (.ishl, 1) := by decide +kernel
theorem dX8_laysWay_101 : decode cX8_laysWay 101 = .ok (.ior, 1) := by decide +kernel
theorem dX8_laysWay_102 : decode cX8_laysWay 102 = .ok (.istore 4, 2) := by decide +kernel
theorem dX8_laysWay_104 : decode cX8_laysWay 104 = .ok (.aload_n 0, 1) := by decide +kernel
theorem dX8_laysWay_105 : decode cX8_laysWay 105 = .ok (.getfield 36, 3) := by decide +kernel
theorem dX8_laysWay_108 : decode cX8_laysWay 108 = .ok (.iload 5, 2) := by decide +kernel
theorem dX8_laysWay_110 : decode cX8_laysWay 110 = .ok (.iload 6, 2) := by decide +kernel
theorem dX8_laysWay_112 : decode cX8_laysWay 112 = .ok (.iastore, 1) := by decide +kernel
theorem dX8_laysWay_113 : decode cX8_laysWay 113 = .ok (.iinc 5 (-1), 3) := by decide +kernel
theorem dX8_laysWay_116 : decode cX8_laysWay 116 = .ok (.goto (-101), 3) := by decide +kernel
theorem dX8_laysWay_119 : decode cX8_laysWay 119 = .ok (.iconst 1, 1) := by decide +kernel
theorem dX8_laysWay_120 : decode cX8_laysWay 120 = .ok (.ireturn, 1) := by decide +kernel
theorem dX8_marginsAfter_0 : decode cX8_marginsAfter 0 = .ok (.iconst 0, 1) := by decide +kernel
theorem dX8_marginsAfter_1 : decode cX8_marginsAfter 1 = .ok (.istore_n 2, 1) := by decide +kernel
theorem dX8_marginsAfter_2 : decode cX8_marginsAfter 2 = .ok (.iconst 0, 1) := by decide +kernel
theorem dX8_marginsAfter_3 : decode cX8_marginsAfter 3 = .ok (.istore_n 3, 1) := by decide +kernel
theorem dX8_marginsAfter_4 : decode cX8_marginsAfter 4 = .ok (.iload_n 3, 1) := by decide +kernel
theorem dX8_marginsAfter_5 : decode cX8_marginsAfter 5 = .ok (.aload_n 0, 1) := by decide +kernel
theorem dX8_marginsAfter_6 : decode cX8_marginsAfter 6 = .ok (.getfield 7, 3) := by decide +kernel
theorem dX8_marginsAfter_9 : decode cX8_marginsAfter 9 = .ok (.iconst 1, 1) := by decide +kernel
theorem dX8_marginsAfter_10 : decode cX8_marginsAfter 10 = .ok (.iaload, 1) := by decide +kernel
theorem dX8_marginsAfter_11 : decode cX8_marginsAfter 11 = .ok (.if_icmp .ge 115, 3) := by decide +kernel
theorem dX8_marginsAfter_14 : decode cX8_marginsAfter 14 = .ok (.iload_n 3, 1) := by decide +kernel
theorem dX8_marginsAfter_15 : decode cX8_marginsAfter 15 = .ok (.iload_n 1, 1) := by decide +kernel
theorem dX8_marginsAfter_16 : decode cX8_marginsAfter 16 = .ok (.if_icmp .eq 104, 3) := by decide +kernel
theorem dX8_marginsAfter_19 : decode cX8_marginsAfter 19 = .ok (.aload_n 0, 1) := by decide +kernel
theorem dX8_marginsAfter_20 : decode cX8_marginsAfter 20 = .ok (.iload_n 3, 1) := by decide +kernel
theorem dX8_marginsAfter_21 : decode cX8_marginsAfter 21 = .ok (.invokevirtual 113, 3) := by decide +kernel
theorem dX8_marginsAfter_24 : decode cX8_marginsAfter 24 = .ok (.ifCond .ne 6, 3) := by decide +kernel
theorem dX8_marginsAfter_27 : decode cX8_marginsAfter 27 = .ok (.goto 93, 3) := by decide +kernel
theorem dX8_marginsAfter_30 : decode cX8_marginsAfter 30 = .ok (.iconst 0, 1) := by decide +kernel
theorem dX8_marginsAfter_31 : decode cX8_marginsAfter 31 = .ok (.istore 4, 2) := by decide +kernel
theorem dX8_marginsAfter_33 : decode cX8_marginsAfter 33 = .ok (.iload 4, 2) := by decide +kernel
theorem dX8_marginsAfter_35 : decode cX8_marginsAfter 35 = .ok (.aload_n 0, 1) := by decide +kernel
theorem dX8_marginsAfter_36 : decode cX8_marginsAfter 36 = .ok (.getfield 7, 3) := by decide +kernel
theorem dX8_marginsAfter_39 : decode cX8_marginsAfter 39 = .ok (.iconst 0, 1) := by decide +kernel
theorem dX8_marginsAfter_40 : decode cX8_marginsAfter 40 = .ok (.iaload, 1) := by decide +kernel
theorem dX8_marginsAfter_41 : decode cX8_marginsAfter 41 = .ok (.if_icmp .ge 79, 3) := by decide +kernel
theorem dX8_marginsAfter_44 : decode cX8_marginsAfter 44 = .ok (.aload_n 0, 1) := by decide +kernel
theorem dX8_marginsAfter_45 : decode cX8_marginsAfter 45 = .ok (.iload_n 1, 1) := by decide +kernel
theorem dX8_marginsAfter_46 : decode cX8_marginsAfter 46 = .ok (.iload 4, 2) := by decide +kernel
theorem dX8_marginsAfter_48 : decode cX8_marginsAfter 48 = .ok (.invokevirtual 79, 3) := by decide +kernel
theorem dX8_marginsAfter_51 : decode cX8_marginsAfter 51 = .ok (.istore 5, 2) := by decide +kernel
theorem dX8_marginsAfter_53 : decode cX8_marginsAfter 53 = .ok (.aload_n 0, 1) := by decide +kernel
theorem dX8_marginsAfter_54 : decode cX8_marginsAfter 54 = .ok (.iload_n 3, 1) := by decide +kernel
theorem dX8_marginsAfter_55 : decode cX8_marginsAfter 55 = .ok (.iload 4, 2) := by decide +kernel
theorem dX8_marginsAfter_57 : decode cX8_marginsAfter 57 = .ok (.invokevirtual 79, 3) := by decide +kernel
theorem dX8_marginsAfter_60 : decode cX8_marginsAfter 60 = .ok (.aload_n 0, 1) := by decide +kernel
theorem dX8_marginsAfter_61 : decode cX8_marginsAfter 61 = .ok (.getfield 36, 3) := by decide +kernel
theorem dX8_marginsAfter_64 : decode cX8_marginsAfter 64 = .ok (.iload 4, 2) := by decide +kernel
theorem dX8_marginsAfter_66 : decode cX8_marginsAfter 66 = .ok (.iaload, 1) := by decide +kernel
theorem dX8_marginsAfter_67 : decode cX8_marginsAfter 67 = .ok (.iload_n 3, 1) := by decide +kernel
theorem dX8_marginsAfter_68 : decode cX8_marginsAfter 68 = .ok (.if_icmp .ne 8, 3) := by decide +kernel
theorem dX8_marginsAfter_71 : decode cX8_marginsAfter 71 = .ok (.iload 5, 2) := by decide +kernel
theorem dX8_marginsAfter_73 : decode cX8_marginsAfter 73 = .ok (.goto 4, 3) := by decide +kernel
theorem dX8_marginsAfter_76 : decode cX8_marginsAfter 76 = .ok (.iconst 0, 1) := by decide +kernel
theorem dX8_marginsAfter_77 : decode cX8_marginsAfter 77 = .ok (.iadd, 1) := by decide +kernel
theorem dX8_marginsAfter_78 : decode cX8_marginsAfter 78 = .ok (.iload 5, 2) := by decide +kernel
theorem dX8_marginsAfter_80 : decode cX8_marginsAfter 80 = .ok (.ifCond .ne 14, 3) := by decide +kernel
theorem dX8_marginsAfter_83 : decode cX8_marginsAfter 83 = .ok (.aload_n 0, 1) := by decide +kernel
theorem dX8_marginsAfter_84 : decode cX8_marginsAfter 84 = .ok (.iload_n 1, 1) := by decide +kernel
theorem dX8_marginsAfter_85 : decode cX8_marginsAfter 85 = .ok (.iload_n 3, 1) := by decide +kernel
theorem dX8_marginsAfter_86 : decode cX8_marginsAfter 86 = .ok (.iload 4, 2) := by decide +kernel
theorem dX8_marginsAfter_88 : decode cX8_marginsAfter 88 = .ok (.invokevirtual 128, 3) := by decide +kernel
theorem dX8_marginsAfter_91 : decode cX8_marginsAfter 91 = .ok (.goto 4, 3) := by decide +kernel
theorem dX8_marginsAfter_94 : decode cX8_marginsAfter 94 = .ok (.iconst 0, 1) := by decide +kernel
theorem dX8_marginsAfter_95 : decode cX8_marginsAfter 95 = .ok (.isub, 1) := by decide +kernel
theorem dX8_marginsAfter_96 : decode cX8_marginsAfter 96 = .ok (.istore 6, 2) := by decide +kernel
theorem dX8_marginsAfter_98 : decode cX8_marginsAfter 98 = .ok (.iload_n 2, 1) := by decide +kernel
theorem dX8_marginsAfter_99 : decode cX8_marginsAfter 99 = .ok (.iload 6, 2) := by decide +kernel
theorem dX8_marginsAfter_101 : decode cX8_marginsAfter 101 = .ok (.invokestatic 82, 3) := by decide +kernel
theorem dX8_marginsAfter_104 : decode cX8_marginsAfter 104 = .ok (.aload_n 0, 1) := by decide +kernel
theorem dX8_marginsAfter_105 : decode cX8_marginsAfter 105 = .ok (.iload 4, 2) := by decide +kernel
theorem dX8_marginsAfter_107 : decode cX8_marginsAfter 107 = .ok (.iconst 2, 1) := by decide +kernel
theorem dX8_marginsAfter_108 : decode cX8_marginsAfter 108 = .ok (.invokevirtual 86, 3) := by decide +kernel
theorem dX8_marginsAfter_111 : decode cX8_marginsAfter 111 = .ok (.imul, 1) := by decide +kernel
theorem dX8_marginsAfter_112 : decode cX8_marginsAfter 112 = .ok (.iadd, 1) := by decide +kernel
theorem dX8_marginsAfter_113 : decode cX8_marginsAfter 113 = .ok (.istore_n 2, 1) := by decide +kernel
theorem dX8_marginsAfter_114 : decode cX8_marginsAfter 114 = .ok (.iinc 4 1, 3) := by decide +kernel
theorem dX8_marginsAfter_117 : decode cX8_marginsAfter 117 = .ok (.goto (-84), 3) := by decide +kernel
theorem dX8_marginsAfter_120 : decode cX8_marginsAfter 120 = .ok (.iinc 3 1, 3) := by decide +kernel
theorem dX8_marginsAfter_123 : decode cX8_marginsAfter 123 = .ok (.goto (-119), 3) := by decide +kernel
theorem dX8_marginsAfter_126 : decode cX8_marginsAfter 126 = .ok (.iload_n 2, 1) := by decide +kernel
theorem dX8_marginsAfter_127 : decode cX8_marginsAfter 127 = .ok (.ireturn, 1) := by decide +kernel
theorem dX8_least_0 : decode cX8_least 0 = .ok (.aload_n 0, 1) := by decide +kernel
theorem dX8_least_1 : decode cX8_least 1 = .ok (.iconst 0, 1) := by decide +kernel
theorem dX8_least_2 : decode cX8_least 2 = .ok (.putfield 132, 3) := by decide +kernel
theorem dX8_least_5 : decode cX8_least 5 = .ok (.aload_n 0, 1) := by decide +kernel
theorem dX8_least_6 : decode cX8_least 6 = .ok (.iconst 0, 1) := by decide +kernel
theorem dX8_least_7 : decode cX8_least 7 = .ok (.putfield 135, 3) := by decide +kernel
theorem dX8_least_10 : decode cX8_least 10 = .ok (.iconst 0, 1) := by decide +kernel
theorem dX8_least_11 : decode cX8_least 11 = .ok (.istore_n 2, 1) := by decide +kernel
theorem dX8_least_12 : decode cX8_least 12 = .ok (.iload_n 2, 1) := by decide +kernel
theorem dX8_least_13 : decode cX8_least 13 = .ok (.aload_n 0, 1) := by decide +kernel
theorem dX8_least_14 : decode cX8_least 14 = .ok (.getfield 7, 3) := by decide +kernel
theorem dX8_least_17 : decode cX8_least 17 = .ok (.iconst 0, 1) := by decide +kernel
theorem dX8_least_18 : decode cX8_least 18 = .ok (.iaload, 1) := by decide +kernel
theorem dX8_least_19 : decode cX8_least 19 = .ok (.if_icmp .ge 32, 3) := by decide +kernel
theorem dX8_least_22 : decode cX8_least 22 = .ok (.aload_n 0, 1) := by decide +kernel
theorem dX8_least_23 : decode cX8_least 23 = .ok (.dup, 1) := by decide +kernel
theorem dX8_least_24 : decode cX8_least 24 = .ok (.getfield 132, 3) := by decide +kernel
theorem dX8_least_27 : decode cX8_least 27 = .ok (.aload_n 0, 1) := by decide +kernel
theorem dX8_least_28 : decode cX8_least 28 = .ok (.iload_n 1, 1) := by decide +kernel
theorem dX8_least_29 : decode cX8_least 29 = .ok (.iload_n 2, 1) := by decide +kernel
theorem dX8_least_30 : decode cX8_least 30 = .ok (.invokevirtual 79, 3) := by decide +kernel
theorem dX8_least_33 : decode cX8_least 33 = .ok (.ifCond .ne 7, 3) := by decide +kernel
theorem dX8_least_36 : decode cX8_least 36 = .ok (.iconst 0, 1) := by decide +kernel
theorem dX8_least_37 : decode cX8_least 37 = .ok (.goto 4, 3) := by decide +kernel
theorem dX8_least_40 : decode cX8_least 40 = .ok (.iconst 1, 1) := by decide +kernel
theorem dX8_least_41 : decode cX8_least 41 = .ok (.iadd, 1) := by decide +kernel
theorem dX8_least_42 : decode cX8_least 42 = .ok (.putfield 132, 3) := by decide +kernel
theorem dX8_least_45 : decode cX8_least 45 = .ok (.iinc 2 1, 3) := by decide +kernel
theorem dX8_least_48 : decode cX8_least 48 = .ok (.goto (-36), 3) := by decide +kernel
theorem dX8_least_51 : decode cX8_least 51 = .ok (.iconst 0, 1) := by decide +kernel
theorem dX8_least_52 : decode cX8_least 52 = .ok (.istore_n 2, 1) := by decide +kernel
theorem dX8_least_53 : decode cX8_least 53 = .ok (.iload_n 2, 1) := by decide +kernel
theorem dX8_least_54 : decode cX8_least 54 = .ok (.aload_n 0, 1) := by decide +kernel
theorem dX8_least_55 : decode cX8_least 55 = .ok (.getfield 7, 3) := by decide +kernel
theorem dX8_least_58 : decode cX8_least 58 = .ok (.iconst 1, 1) := by decide +kernel
theorem dX8_least_59 : decode cX8_least 59 = .ok (.iaload, 1) := by decide +kernel
theorem dX8_least_60 : decode cX8_least 60 = .ok (.if_icmp .ge 36, 3) := by decide +kernel
theorem dX8_least_63 : decode cX8_least 63 = .ok (.aload_n 0, 1) := by decide +kernel
theorem dX8_least_64 : decode cX8_least 64 = .ok (.dup, 1) := by decide +kernel
theorem dX8_least_65 : decode cX8_least 65 = .ok (.getfield 135, 3) := by decide +kernel
theorem dX8_least_68 : decode cX8_least 68 = .ok (.iload_n 2, 1) := by decide +kernel
theorem dX8_least_69 : decode cX8_least 69 = .ok (.iload_n 1, 1) := by decide +kernel
theorem dX8_least_70 : decode cX8_least 70 = .ok (.if_icmp .eq 15, 3) := by decide +kernel
theorem dX8_least_73 : decode cX8_least 73 = .ok (.aload_n 0, 1) := by decide +kernel
theorem dX8_least_74 : decode cX8_least 74 = .ok (.iload_n 2, 1) := by decide +kernel
theorem dX8_least_75 : decode cX8_least 75 = .ok (.invokevirtual 113, 3) := by decide +kernel
theorem dX8_least_78 : decode cX8_least 78 = .ok (.ifCond .eq 7, 3) := by decide +kernel
theorem dX8_least_81 : decode cX8_least 81 = .ok (.iconst 1, 1) := by decide +kernel
theorem dX8_least_82 : decode cX8_least 82 = .ok (.goto 4, 3) := by decide +kernel
theorem dX8_least_85 : decode cX8_least 85 = .ok (.iconst 0, 1) := by decide +kernel
theorem dX8_least_86 : decode cX8_least 86 = .ok (.iadd, 1) := by decide +kernel
theorem dX8_least_87 : decode cX8_least 87 = .ok (.putfield 135, 3) := by decide +kernel
theorem dX8_least_90 : decode cX8_least 90 = .ok (.iinc 2 1, 3) := by decide +kernel
theorem dX8_least_93 : decode cX8_least 93 = .ok (.goto (-40), 3) := by decide +kernel
theorem dX8_least_96 : decode cX8_least 96 = .ok (.aload_n 0, 1) := by decide +kernel
theorem dX8_least_97 : decode cX8_least 97 = .ok (.getfield 135, 3) := by decide +kernel
theorem dX8_least_100 : decode cX8_least 100 = .ok (.aload_n 0, 1) := by decide +kernel
theorem dX8_least_101 : decode cX8_least 101 = .ok (.getfield 132, 3) := by decide +kernel
theorem dX8_least_104 : decode cX8_least 104 = .ok (.if_icmp .ge 5, 3) := by decide +kernel
theorem dX8_least_107 : decode cX8_least 107 = .ok (.iconst (-1), 1) := by decide +kernel
theorem dX8_least_108 : decode cX8_least 108 = .ok (.ireturn, 1) := by decide +kernel
theorem dX8_least_109 : decode cX8_least 109 = .ok (.iconst 1, 1) := by decide +kernel
theorem dX8_least_110 : decode cX8_least 110 = .ok (.istore_n 2, 1) := by decide +kernel
theorem dX8_least_111 : decode cX8_least 111 = .ok (.iconst 0, 1) := by decide +kernel
theorem dX8_least_112 : decode cX8_least 112 = .ok (.istore_n 3, 1) := by decide +kernel
theorem dX8_least_113 : decode cX8_least 113 = .ok (.iload_n 3, 1) := by decide +kernel
theorem dX8_least_114 : decode cX8_least 114 = .ok (.aload_n 0, 1) := by decide +kernel
theorem dX8_least_115 : decode cX8_least 115 = .ok (.getfield 7, 3) := by decide +kernel
theorem dX8_least_118 : decode cX8_least 118 = .ok (.iconst 0, 1) := by decide +kernel
theorem dX8_least_119 : decode cX8_least 119 = .ok (.iaload, 1) := by decide +kernel
theorem dX8_least_120 : decode cX8_least 120 = .ok (.if_icmp .ge 14, 3) := by decide +kernel
theorem dX8_least_123 : decode cX8_least 123 = .ok (.iload_n 2, 1) := by decide +kernel
theorem dX8_least_124 : decode cX8_least 124 = .ok (.bipush 6, 2) := by decide +kernel
theorem dX8_least_126 : decode cX8_least 126 = .ok (.imul, 1) := by decide +kernel
theorem dX8_least_127 : decode cX8_least 127 = .ok (.istore_n 2, 1) := by decide +kernel
theorem dX8_least_128 : decode cX8_least 128 = .ok (.iinc 3 1, 3) := by decide +kernel
theorem dX8_least_131 : decode cX8_least 131 = .ok (.goto (-18), 3) := by decide +kernel
theorem dX8_least_134 : decode cX8_least 134 = .ok (.iconst (-1), 1) := by decide +kernel
theorem dX8_least_135 : decode cX8_least 135 = .ok (.istore_n 3, 1) := by decide +kernel
theorem dX8_least_136 : decode cX8_least 136 = .ok (.iconst 0, 1) := by decide +kernel
theorem dX8_least_137 : decode cX8_least 137 = .ok (.istore 4, 2) := by decide +kernel
theorem dX8_least_139 : decode cX8_least 139 = .ok (.iload 4, 2) := by decide +kernel
theorem dX8_least_141 : decode cX8_least 141 = .ok (.iload_n 2, 1) := by decide +kernel
theorem dX8_least_142 : decode cX8_least 142 = .ok (.if_icmp .ge 74, 3) := by decide +kernel
theorem dX8_least_145 : decode cX8_least 145 = .ok (.aload_n 0, 1) := by decide +kernel
theorem dX8_least_146 : decode cX8_least 146 = .ok (.iload_n 1, 1) := by decide +kernel
theorem dX8_least_147 : decode cX8_least 147 = .ok (.iload 4, 2) := by decide +kernel
theorem dX8_least_149 : decode cX8_least 149 = .ok (.invokevirtual 138, 3) := by decide +kernel
theorem dX8_least_152 : decode cX8_least 152 = .ok (.ifCond .ne 6, 3) := by decide +kernel
theorem dX8_least_155 : decode cX8_least 155 = .ok (.goto 55, 3) := by decide +kernel
theorem dX8_least_158 : decode cX8_least 158 = .ok (.aload_n 0, 1) := by decide +kernel
theorem dX8_least_159 : decode cX8_least 159 = .ok (.iload_n 1, 1) := by decide +kernel
theorem dX8_least_160 : decode cX8_least 160 = .ok (.invokevirtual 141, 3) := by decide +kernel
theorem dX8_least_163 : decode cX8_least 163 = .ok (.istore 5, 2) := by decide +kernel
theorem dX8_least_165 : decode cX8_least 165 = .ok (.iload_n 3, 1) := by decide +kernel
theorem dX8_least_166 : decode cX8_least 166 = .ok (.ifCond .lt 12, 3) := by decide +kernel
theorem dX8_least_169 : decode cX8_least 169 = .ok (.iload 5, 2) := by decide +kernel
theorem dX8_least_171 : decode cX8_least 171 = .ok (.iload_n 3, 1) := by decide +kernel
theorem dX8_least_172 : decode cX8_least 172 = .ok (.if_icmp .lt 6, 3) := by decide +kernel
theorem dX8_least_175 : decode cX8_least 175 = .ok (.goto 35, 3) := by decide +kernel
theorem dX8_least_178 : decode cX8_least 178 = .ok (.iload 5, 2) := by decide +kernel
theorem dX8_least_180 : decode cX8_least 180 = .ok (.istore_n 3, 1) := by decide +kernel
theorem dX8_least_181 : decode cX8_least 181 = .ok (.iconst 0, 1) := by decide +kernel
theorem dX8_least_182 : decode cX8_least 182 = .ok (.istore 6, 2) := by decide +kernel
theorem dX8_least_184 : decode cX8_least 184 = .ok (.iload 6, 2) := by decide +kernel
theorem dX8_least_186 : decode cX8_least 186 = .ok (.iconst 4, 1) := by decide +kernel
theorem dX8_least_187 : decode cX8_least 187 = .ok (.if_icmp .ge 23, 3) := by decide +kernel
theorem dX8_least_190 : decode cX8_least 190 = .ok (.aload_n 0, 1) := by decide +kernel
theorem dX8_least_191 : decode cX8_least 191 = .ok (.getfield 39, 3) := by decide +kernel
theorem dX8_least_194 : decode cX8_least 194 = .ok (.iload 6, 2) := by decide +kernel
theorem dX8_least_196 : decode cX8_least 196 = .ok (.aload_n 0, 1) := by decide +kernel
theorem dX8_least_197 : decode cX8_least 197 = .ok (.getfield 36, 3) := by decide +kernel
theorem dX8_least_200 : decode cX8_least 200 = .ok (.iload 6, 2) := by decide +kernel
theorem dX8_least_202 : decode cX8_least 202 = .ok (.iaload, 1) := by decide +kernel
theorem dX8_least_203 : decode cX8_least 203 = .ok (.iastore, 1) := by decide +kernel
theorem dX8_least_204 : decode cX8_least 204 = .ok (.iinc 6 1, 3) := by decide +kernel
theorem dX8_least_207 : decode cX8_least 207 = .ok (.goto (-23), 3) := by decide +kernel
theorem dX8_least_210 : decode cX8_least 210 = .ok (.iinc 4 1, 3) := by decide +kernel
theorem dX8_least_213 : decode cX8_least 213 = .ok (.goto (-74), 3) := by decide +kernel
theorem dX8_least_216 : decode cX8_least 216 = .ok (.iload_n 3, 1) := by decide +kernel
theorem dX8_least_217 : decode cX8_least 217 = .ok (.ireturn, 1) := by decide +kernel
theorem dX8_hands_0 : decode cX8_hands 0 = .ok (.iconst 0, 1) := by decide +kernel
theorem dX8_hands_1 : decode cX8_hands 1 = .ok (.istore_n 3, 1) := by decide +kernel
theorem dX8_hands_2 : decode cX8_hands 2 = .ok (.iconst 0, 1) := by decide +kernel
theorem dX8_hands_3 : decode cX8_hands 3 = .ok (.istore 4, 2) := by decide +kernel
theorem dX8_hands_5 : decode cX8_hands 5 = .ok (.iload 4, 2) := by decide +kernel
theorem dX8_hands_7 : decode cX8_hands 7 = .ok (.aload_n 0, 1) := by decide +kernel
theorem dX8_hands_8 : decode cX8_hands 8 = .ok (.getfield 7, 3) := by decide +kernel
theorem dX8_hands_11 : decode cX8_hands 11 = .ok (.iconst 0, 1) := by decide +kernel
theorem dX8_hands_12 : decode cX8_hands 12 = .ok (.iaload, 1) := by decide +kernel
theorem dX8_hands_13 : decode cX8_hands 13 = .ok (.if_icmp .ge 30, 3) := by decide +kernel
theorem dX8_hands_16 : decode cX8_hands 16 = .ok (.iload_n 3, 1) := by decide +kernel
theorem dX8_hands_17 : decode cX8_hands 17 = .ok (.aload_n 0, 1) := by decide +kernel
theorem dX8_hands_18 : decode cX8_hands 18 = .ok (.iload_n 1, 1) := by decide +kernel
theorem dX8_hands_19 : decode cX8_hands 19 = .ok (.iload 4, 2) := by decide +kernel
theorem dX8_hands_21 : decode cX8_hands 21 = .ok (.invokevirtual 79, 3) := by decide +kernel
theorem dX8_hands_24 : decode cX8_hands 24 = .ok (.ifCond .ne 7, 3) := by decide +kernel
theorem dX8_hands_27 : decode cX8_hands 27 = .ok (.iconst 0, 1) := by decide +kernel
theorem dX8_hands_28 : decode cX8_hands 28 = .ok (.goto 7, 3) := by decide +kernel
theorem dX8_hands_31 : decode cX8_hands 31 = .ok (.iconst 1, 1) := by decide +kernel
theorem dX8_hands_32 : decode cX8_hands 32 = .ok (.iload 4, 2) := by decide +kernel
theorem dX8_hands_34 : decode cX8_hands 34 = .ok (.ishl, 1) := by decide +kernel
theorem dX8_hands_35 : decode cX8_hands 35 = .ok (.ior, 1) := by decide +kernel
theorem dX8_hands_36 : decode cX8_hands 36 = .ok (.istore_n 3, 1) := by decide +kernel
theorem dX8_hands_37 : decode cX8_hands 37 = .ok (.iinc 4 1, 3) := by decide +kernel
theorem dX8_hands_40 : decode cX8_hands 40 = .ok (.goto (-35), 3) := by decide +kernel
theorem dX8_hands_43 : decode cX8_hands 43 = .ok (.aload_n 0, 1) := by decide +kernel
theorem dX8_hands_44 : decode cX8_hands 44 = .ok (.getfield 7, 3) := by decide +kernel
theorem dX8_hands_47 : decode cX8_hands 47 = .ok (.iconst 2, 1) := by decide +kernel
theorem dX8_hands_48 : decode cX8_hands 48 = .ok (.iaload, 1) := by decide +kernel
theorem dX8_hands_49 : decode cX8_hands 49 = .ok (.iconst 1, 1) := by decide +kernel
theorem dX8_hands_50 : decode cX8_hands 50 = .ok (.isub, 1) := by decide +kernel
theorem dX8_hands_51 : decode cX8_hands 51 = .ok (.istore 4, 2) := by decide +kernel
theorem dX8_hands_53 : decode cX8_hands 53 = .ok (.iload 4, 2) := by decide +kernel
theorem dX8_hands_55 : decode cX8_hands 55 = .ok (.ifCond .lt 118, 3) := by decide +kernel
theorem dX8_hands_58 : decode cX8_hands 58 = .ok (.aload_n 0, 1) := by decide +kernel
theorem dX8_hands_59 : decode cX8_hands 59 = .ok (.iload 4, 2) := by decide +kernel
theorem dX8_hands_61 : decode cX8_hands 61 = .ok (.iconst 0, 1) := by decide +kernel
theorem dX8_hands_62 : decode cX8_hands 62 = .ok (.invokevirtual 76, 3) := by decide +kernel
theorem dX8_hands_65 : decode cX8_hands 65 = .ok (.iload_n 1, 1) := by decide +kernel
theorem dX8_hands_66 : decode cX8_hands 66 = .ok (.if_icmp .eq 17, 3) := by decide +kernel
theorem dX8_hands_69 : decode cX8_hands 69 = .ok (.aload_n 0, 1) := by decide +kernel
theorem dX8_hands_70 : decode cX8_hands 70 = .ok (.iload 4, 2) := by decide +kernel
theorem dX8_hands_72 : decode cX8_hands 72 = .ok (.iconst 1, 1) := by decide +kernel
theorem dX8_hands_73 : decode cX8_hands 73 = .ok (.invokevirtual 76, 3) := by decide +kernel
theorem dX8_hands_76 : decode cX8_hands 76 = .ok (.iload_n 1, 1) := by decide +kernel
theorem dX8_hands_77 : decode cX8_hands 77 = .ok (.if_icmp .eq 6, 3) := by decide +kernel
theorem dX8_hands_80 : decode cX8_hands 80 = .ok (.goto 87, 3) := by decide +kernel
theorem dX8_hands_83 : decode cX8_hands 83 = .ok (.iload_n 2, 1) := by decide +kernel
theorem dX8_hands_84 : decode cX8_hands 84 = .ok (.ifCond .eq 17, 3) := by decide +kernel
theorem dX8_hands_87 : decode cX8_hands 87 = .ok (.iload_n 3, 1) := by decide +kernel
theorem dX8_hands_88 : decode cX8_hands 88 = .ok (.aload_n 0, 1) := by decide +kernel
theorem dX8_hands_89 : decode cX8_hands 89 = .ok (.iload 4, 2) := by decide +kernel
theorem dX8_hands_91 : decode cX8_hands 91 = .ok (.iconst 2, 1) := by decide +kernel
theorem dX8_hands_92 : decode cX8_hands 92 = .ok (.invokevirtual 76, 3) := by decide +kernel
theorem dX8_hands_95 : decode cX8_hands 95 = .ok (.ishr, 1) := by decide +kernel
theorem dX8_hands_96 : decode cX8_hands 96 = .ok (.iconst 1, 1) := by decide +kernel
theorem dX8_hands_97 : decode cX8_hands 97 = .ok (.iand, 1) := by decide +kernel
theorem dX8_hands_98 : decode cX8_hands 98 = .ok (.ifCond .ne 12, 3) := by decide +kernel
theorem dX8_hands_101 : decode cX8_hands 101 = .ok (.aload_n 0, 1) := by decide +kernel
theorem dX8_hands_102 : decode cX8_hands 102 = .ok (.iload 4, 2) := by decide +kernel
theorem dX8_hands_104 : decode cX8_hands 104 = .ok (.invokevirtual 124, 3) := by decide +kernel
theorem dX8_hands_107 : decode cX8_hands 107 = .ok (.goto 60, 3) := by decide +kernel
theorem dX8_hands_110 : decode cX8_hands 110 = .ok (.aload_n 0, 1) := by decide +kernel
theorem dX8_hands_111 : decode cX8_hands 111 = .ok (.iload 4, 2) := by decide +kernel
theorem dX8_hands_113 : decode cX8_hands 113 = .ok (.aload_n 0, 1) := by decide +kernel
theorem dX8_hands_114 : decode cX8_hands 114 = .ok (.iload 4, 2) := by decide +kernel
theorem dX8_hands_116 : decode cX8_hands 116 = .ok (.iconst 0, 1) := by decide +kernel
theorem dX8_hands_117 : decode cX8_hands 117 = .ok (.invokevirtual 76, 3) := by decide +kernel
theorem dX8_hands_120 : decode cX8_hands 120 = .ok (.iload_n 1, 1) := by decide +kernel
theorem dX8_hands_121 : decode cX8_hands 121 = .ok (.if_icmp .ne 7, 3) := by decide +kernel
theorem dX8_hands_124 : decode cX8_hands 124 = .ok (.iconst 0, 1) := by decide +kernel
theorem dX8_hands_125 : decode cX8_hands 125 = .ok (.goto 4, 3) := by decide +kernel
theorem dX8_hands_128 : decode cX8_hands 128 = .ok (.iconst 1, 1) := by decide +kernel
theorem dX8_hands_129 : decode cX8_hands 129 = .ok (.aload_n 0, 1) := by decide +kernel
theorem dX8_hands_130 : decode cX8_hands 130 = .ok (.getfield 39, 3) := by decide +kernel
theorem dX8_hands_133 : decode cX8_hands 133 = .ok (.aload_n 0, 1) := by decide +kernel
theorem dX8_hands_134 : decode cX8_hands 134 = .ok (.iload 4, 2) := by decide +kernel
theorem dX8_hands_136 : decode cX8_hands 136 = .ok (.iconst 2, 1) := by decide +kernel
theorem dX8_hands_137 : decode cX8_hands 137 = .ok (.invokevirtual 76, 3) := by decide +kernel
theorem dX8_hands_140 : decode cX8_hands 140 = .ok (.iaload, 1) := by decide +kernel
theorem dX8_hands_141 : decode cX8_hands 141 = .ok (.invokevirtual 101, 3) := by decide +kernel
theorem dX8_hands_144 : decode cX8_hands 144 = .ok (.aload_n 0, 1) := by decide +kernel
theorem dX8_hands_145 : decode cX8_hands 145 = .ok (.iload 4, 2) := by decide +kernel
theorem dX8_hands_147 : decode cX8_hands 147 = .ok (.iconst 0, 1) := by decide +kernel
theorem dX8_hands_148 : decode cX8_hands 148 = .ok (.invokevirtual 76, 3) := by decide +kernel
theorem dX8_hands_151 : decode cX8_hands 151 = .ok (.aload_n 0, 1) := by decide +kernel
theorem dX8_hands_152 : decode cX8_hands 152 = .ok (.iload 4, 2) := by decide +kernel
theorem dX8_hands_154 : decode cX8_hands 154 = .ok (.iconst 1, 1) := by decide +kernel
theorem dX8_hands_155 : decode cX8_hands 155 = .ok (.invokevirtual 76, 3) := by decide +kernel
theorem dX8_hands_158 : decode cX8_hands 158 = .ok (.if_icmp .ne 9, 3) := by decide +kernel
theorem dX8_hands_161 : decode cX8_hands 161 = .ok (.aload_n 0, 1) := by decide +kernel
theorem dX8_hands_162 : decode cX8_hands 162 = .ok (.iload 4, 2) := by decide +kernel
theorem dX8_hands_164 : decode cX8_hands 164 = .ok (.invokevirtual 124, 3) := by decide +kernel
theorem dX8_hands_167 : decode cX8_hands 167 = .ok (.iinc 4 (-1), 3) := by decide +kernel
theorem dX8_hands_170 : decode cX8_hands 170 = .ok (.goto (-117), 3) := by decide +kernel
theorem dX8_hands_173 : decode cX8_hands 173 = .ok (.return_, 1) := by decide +kernel
theorem dX8_defaults_0 : decode cX8_defaults 0 = .ok (.aload_n 0, 1) := by decide +kernel
theorem dX8_defaults_1 : decode cX8_defaults 1 = .ok (.iload_n 1, 1) := by decide +kernel
theorem dX8_defaults_2 : decode cX8_defaults 2 = .ok (.invokevirtual 144, 3) := by decide +kernel
theorem dX8_defaults_5 : decode cX8_defaults 5 = .ok (.istore_n 2, 1) := by decide +kernel
theorem dX8_defaults_6 : decode cX8_defaults 6 = .ok (.aload_n 0, 1) := by decide +kernel
theorem dX8_defaults_7 : decode cX8_defaults 7 = .ok (.iload_n 1, 1) := by decide +kernel
theorem dX8_defaults_8 : decode cX8_defaults 8 = .ok (.iload_n 2, 1) := by decide +kernel
theorem dX8_defaults_9 : decode cX8_defaults 9 = .ok (.ifCond .lt 7, 3) := by decide +kernel
theorem dX8_defaults_12 : decode cX8_defaults 12 = .ok (.iconst 1, 1) := by decide +kernel
theorem dX8_defaults_13 : decode cX8_defaults 13 = .ok (.goto 4, 3) := by decide +kernel
theorem dX8_defaults_16 : decode cX8_defaults 16 = .ok (.iconst 0, 1) := by decide +kernel
theorem dX8_defaults_17 : decode cX8_defaults 17 = .ok (.invokevirtual 147, 3) := by decide +kernel
theorem dX8_defaults_20 : decode cX8_defaults 20 = .ok (.aload_n 0, 1) := by decide +kernel
theorem dX8_defaults_21 : decode cX8_defaults 21 = .ok (.iload_n 1, 1) := by decide +kernel
theorem dX8_defaults_22 : decode cX8_defaults 22 = .ok (.iconst 0, 1) := by decide +kernel
theorem dX8_defaults_23 : decode cX8_defaults 23 = .ok (.invokevirtual 72, 3) := by decide +kernel
theorem dX8_defaults_26 : decode cX8_defaults 26 = .ok (.istore_n 3, 1) := by decide +kernel
theorem dX8_defaults_27 : decode cX8_defaults 27 = .ok (.iload_n 3, 1) := by decide +kernel
theorem dX8_defaults_28 : decode cX8_defaults 28 = .ok (.ifCond .ge 12, 3) := by decide +kernel
theorem dX8_defaults_31 : decode cX8_defaults 31 = .ok (.aload_n 0, 1) := by decide +kernel
theorem dX8_defaults_32 : decode cX8_defaults 32 = .ok (.getfield 7, 3) := by decide +kernel
theorem dX8_defaults_35 : decode cX8_defaults 35 = .ok (.iconst 4, 1) := by decide +kernel
theorem dX8_defaults_36 : decode cX8_defaults 36 = .ok (.iaload, 1) := by decide +kernel
theorem dX8_defaults_37 : decode cX8_defaults 37 = .ok (.ifCond .ne 7, 3) := by decide +kernel
theorem dX8_defaults_40 : decode cX8_defaults 40 = .ok (.iconst 0, 1) := by decide +kernel
theorem dX8_defaults_41 : decode cX8_defaults 41 = .ok (.goto 25, 3) := by decide +kernel
theorem dX8_defaults_44 : decode cX8_defaults 44 = .ok (.iload_n 3, 1) := by decide +kernel
theorem dX8_defaults_45 : decode cX8_defaults 45 = .ok (.ineg, 1) := by decide +kernel
theorem dX8_defaults_46 : decode cX8_defaults 46 = .ok (.aload_n 0, 1) := by decide +kernel
theorem dX8_defaults_47 : decode cX8_defaults 47 = .ok (.getfield 7, 3) := by decide +kernel
theorem dX8_defaults_50 : decode cX8_defaults 50 = .ok (.iconst 4, 1) := by decide +kernel
theorem dX8_defaults_51 : decode cX8_defaults 51 = .ok (.iaload, 1) := by decide +kernel
theorem dX8_defaults_52 : decode cX8_defaults 52 = .ok (.if_icmp .ge 8, 3) := by decide +kernel
theorem dX8_defaults_55 : decode cX8_defaults 55 = .ok (.iload_n 3, 1) := by decide +kernel
theorem dX8_defaults_56 : decode cX8_defaults 56 = .ok (.ineg, 1) := by decide +kernel
theorem dX8_defaults_57 : decode cX8_defaults 57 = .ok (.goto 9, 3) := by decide +kernel
theorem dX8_defaults_60 : decode cX8_defaults 60 = .ok (.aload_n 0, 1) := by decide +kernel
theorem dX8_defaults_61 : decode cX8_defaults 61 = .ok (.getfield 7, 3) := by decide +kernel
theorem dX8_defaults_64 : decode cX8_defaults 64 = .ok (.iconst 4, 1) := by decide +kernel
theorem dX8_defaults_65 : decode cX8_defaults 65 = .ok (.iaload, 1) := by decide +kernel
theorem dX8_defaults_66 : decode cX8_defaults 66 = .ok (.istore 4, 2) := by decide +kernel
theorem dX8_defaults_68 : decode cX8_defaults 68 = .ok (.iload_n 3, 1) := by decide +kernel
theorem dX8_defaults_69 : decode cX8_defaults 69 = .ok (.ifCond .lt 16, 3) := by decide +kernel
theorem dX8_defaults_72 : decode cX8_defaults 72 = .ok (.aload_n 0, 1) := by decide +kernel
theorem dX8_defaults_73 : decode cX8_defaults 73 = .ok (.getfield 7, 3) := by decide +kernel
theorem dX8_defaults_76 : decode cX8_defaults 76 = .ok (.iconst 4, 1) := by decide +kernel
theorem dX8_defaults_77 : decode cX8_defaults 77 = .ok (.dup2, 1) := by decide +kernel
theorem dX8_defaults_78 : decode cX8_defaults 78 = .ok (.iaload, 1) := by decide +kernel
theorem dX8_defaults_79 : decode cX8_defaults 79 = .ok (.iload_n 3, 1) := by decide +kernel
theorem dX8_defaults_80 : decode cX8_defaults 80 = .ok (.iadd, 1) := by decide +kernel
theorem dX8_defaults_81 : decode cX8_defaults 81 = .ok (.iastore, 1) := by decide +kernel
theorem dX8_defaults_82 : decode cX8_defaults 82 = .ok (.goto 28, 3) := by decide +kernel
theorem dX8_defaults_85 : decode cX8_defaults 85 = .ok (.aload_n 0, 1) := by decide +kernel
theorem dX8_defaults_86 : decode cX8_defaults 86 = .ok (.getfield 7, 3) := by decide +kernel
theorem dX8_defaults_89 : decode cX8_defaults 89 = .ok (.iconst 4, 1) := by decide +kernel
theorem dX8_defaults_90 : decode cX8_defaults 90 = .ok (.dup2, 1) := by decide +kernel
theorem dX8_defaults_91 : decode cX8_defaults 91 = .ok (.iaload, 1) := by decide +kernel
theorem dX8_defaults_92 : decode cX8_defaults 92 = .ok (.iload 4, 2) := by decide +kernel
theorem dX8_defaults_94 : decode cX8_defaults 94 = .ok (.isub, 1) := by decide +kernel
theorem dX8_defaults_95 : decode cX8_defaults 95 = .ok (.iastore, 1) := by decide +kernel
theorem dX8_defaults_96 : decode cX8_defaults 96 = .ok (.aload_n 0, 1) := by decide +kernel
theorem dX8_defaults_97 : decode cX8_defaults 97 = .ok (.getfield 7, 3) := by decide +kernel
theorem dX8_defaults_100 : decode cX8_defaults 100 = .ok (.iconst 5, 1) := by decide +kernel
theorem dX8_defaults_101 : decode cX8_defaults 101 = .ok (.dup2, 1) := by decide +kernel
theorem dX8_defaults_102 : decode cX8_defaults 102 = .ok (.iaload, 1) := by decide +kernel
theorem dX8_defaults_103 : decode cX8_defaults 103 = .ok (.iload_n 3, 1) := by decide +kernel
theorem dX8_defaults_104 : decode cX8_defaults 104 = .ok (.ineg, 1) := by decide +kernel
theorem dX8_defaults_105 : decode cX8_defaults 105 = .ok (.iload 4, 2) := by decide +kernel
theorem dX8_defaults_107 : decode cX8_defaults 107 = .ok (.isub, 1) := by decide +kernel
theorem dX8_defaults_108 : decode cX8_defaults 108 = .ok (.iadd, 1) := by decide +kernel
theorem dX8_defaults_109 : decode cX8_defaults 109 = .ok (.iastore, 1) := by decide +kernel
theorem dX8_defaults_110 : decode cX8_defaults 110 = .ok (.aload_n 0, 1) := by decide +kernel
theorem dX8_defaults_111 : decode cX8_defaults 111 = .ok (.iload_n 1, 1) := by decide +kernel
theorem dX8_defaults_112 : decode cX8_defaults 112 = .ok (.iconst 0, 1) := by decide +kernel
theorem dX8_defaults_113 : decode cX8_defaults 113 = .ok (.iconst 0, 1) := by decide +kernel
theorem dX8_defaults_114 : decode cX8_defaults 114 = .ok (.invokevirtual 97, 3) := by decide +kernel
theorem dX8_defaults_117 : decode cX8_defaults 117 = .ok (.aload_n 0, 1) := by decide +kernel
theorem dX8_defaults_118 : decode cX8_defaults 118 = .ok (.iload_n 1, 1) := by decide +kernel
theorem dX8_defaults_119 : decode cX8_defaults 119 = .ok (.iconst 1, 1) := by decide +kernel
theorem dX8_defaults_120 : decode cX8_defaults 120 = .ok (.iconst 0, 1) := by decide +kernel
theorem dX8_defaults_121 : decode cX8_defaults 121 = .ok (.invokevirtual 97, 3) := by decide +kernel
theorem dX8_defaults_124 : decode cX8_defaults 124 = .ok (.aload_n 0, 1) := by decide +kernel
theorem dX8_defaults_125 : decode cX8_defaults 125 = .ok (.iload_n 1, 1) := by decide +kernel
theorem dX8_defaults_126 : decode cX8_defaults 126 = .ok (.iconst 2, 1) := by decide +kernel
theorem dX8_defaults_127 : decode cX8_defaults 127 = .ok (.iconst 1, 1) := by decide +kernel
theorem dX8_defaults_128 : decode cX8_defaults 128 = .ok (.invokevirtual 97, 3) := by decide +kernel
theorem dX8_defaults_131 : decode cX8_defaults 131 = .ok (.return_, 1) := by decide +kernel
theorem dX8_dawn_0 : decode cX8_dawn 0 = .ok (.aload_n 0, 1) := by decide +kernel
theorem dX8_dawn_1 : decode cX8_dawn 1 = .ok (.aload_n 0, 1) := by decide +kernel
theorem dX8_dawn_2 : decode cX8_dawn 2 = .ok (.getfield 7, 3) := by decide +kernel
theorem dX8_dawn_5 : decode cX8_dawn 5 = .ok (.invokevirtual 93, 3) := by decide +kernel
theorem dX8_dawn_8 : decode cX8_dawn 8 = .ok (.iconst 0, 1) := by decide +kernel
theorem dX8_dawn_9 : decode cX8_dawn 9 = .ok (.istore_n 1, 1) := by decide +kernel
theorem dX8_dawn_10 : decode cX8_dawn 10 = .ok (.iload_n 1, 1) := by decide +kernel
theorem dX8_dawn_11 : decode cX8_dawn 11 = .ok (.aload_n 0, 1) := by decide +kernel
theorem dX8_dawn_12 : decode cX8_dawn 12 = .ok (.getfield 7, 3) := by decide +kernel
theorem dX8_dawn_15 : decode cX8_dawn 15 = .ok (.iconst 1, 1) := by decide +kernel
theorem dX8_dawn_16 : decode cX8_dawn 16 = .ok (.iaload, 1) := by decide +kernel
theorem dX8_dawn_17 : decode cX8_dawn 17 = .ok (.if_icmp .ge 20, 3) := by decide +kernel
theorem dX8_dawn_20 : decode cX8_dawn 20 = .ok (.aload_n 0, 1) := by decide +kernel
theorem dX8_dawn_21 : decode cX8_dawn 21 = .ok (.getfield 42, 3) := by decide +kernel
theorem dX8_dawn_24 : decode cX8_dawn 24 = .ok (.iload_n 1, 1) := by decide +kernel
theorem dX8_dawn_25 : decode cX8_dawn 25 = .ok (.aload_n 0, 1) := by decide +kernel
theorem dX8_dawn_26 : decode cX8_dawn 26 = .ok (.iload_n 1, 1) := by decide +kernel
theorem dX8_dawn_27 : decode cX8_dawn 27 = .ok (.invokevirtual 151, 3) := by decide +kernel
theorem dX8_dawn_30 : decode cX8_dawn 30 = .ok (.iastore, 1) := by decide +kernel
theorem dX8_dawn_31 : decode cX8_dawn 31 = .ok (.iinc 1 1, 3) := by decide +kernel
theorem dX8_dawn_34 : decode cX8_dawn 34 = .ok (.goto (-24), 3) := by decide +kernel
theorem dX8_dawn_37 : decode cX8_dawn 37 = .ok (.iconst 0, 1) := by decide +kernel
theorem dX8_dawn_38 : decode cX8_dawn 38 = .ok (.istore_n 1, 1) := by decide +kernel
theorem dX8_dawn_39 : decode cX8_dawn 39 = .ok (.iload_n 1, 1) := by decide +kernel
theorem dX8_dawn_40 : decode cX8_dawn 40 = .ok (.aload_n 0, 1) := by decide +kernel
theorem dX8_dawn_41 : decode cX8_dawn 41 = .ok (.getfield 7, 3) := by decide +kernel
theorem dX8_dawn_44 : decode cX8_dawn 44 = .ok (.iconst 1, 1) := by decide +kernel
theorem dX8_dawn_45 : decode cX8_dawn 45 = .ok (.iaload, 1) := by decide +kernel
theorem dX8_dawn_46 : decode cX8_dawn 46 = .ok (.if_icmp .ge 28, 3) := by decide +kernel
theorem dX8_dawn_49 : decode cX8_dawn 49 = .ok (.aload_n 0, 1) := by decide +kernel
theorem dX8_dawn_50 : decode cX8_dawn 50 = .ok (.iload_n 1, 1) := by decide +kernel
theorem dX8_dawn_51 : decode cX8_dawn 51 = .ok (.iconst 0, 1) := by decide +kernel
theorem dX8_dawn_52 : decode cX8_dawn 52 = .ok (.aload_n 0, 1) := by decide +kernel
theorem dX8_dawn_53 : decode cX8_dawn 53 = .ok (.iload_n 1, 1) := by decide +kernel
theorem dX8_dawn_54 : decode cX8_dawn 54 = .ok (.iconst 0, 1) := by decide +kernel
theorem dX8_dawn_55 : decode cX8_dawn 55 = .ok (.invokevirtual 72, 3) := by decide +kernel
theorem dX8_dawn_58 : decode cX8_dawn 58 = .ok (.aload_n 0, 1) := by decide +kernel
theorem dX8_dawn_59 : decode cX8_dawn 59 = .ok (.getfield 42, 3) := by decide +kernel
theorem dX8_dawn_62 : decode cX8_dawn 62 = .ok (.iload_n 1, 1) := by decide +kernel
theorem dX8_dawn_63 : decode cX8_dawn 63 = .ok (.iaload, 1) := by decide +kernel
theorem dX8_dawn_64 : decode cX8_dawn 64 = .ok (.iadd, 1) := by decide +kernel
theorem dX8_dawn_65 : decode cX8_dawn 65 = .ok (.invokevirtual 97, 3) := by decide +kernel
theorem dX8_dawn_68 : decode cX8_dawn 68 = .ok (.iinc 1 1, 3) := by decide +kernel
theorem dX8_dawn_71 : decode cX8_dawn 71 = .ok (.goto (-32), 3) := by decide +kernel
theorem dX8_dawn_74 : decode cX8_dawn 74 = .ok (.iconst 0, 1) := by decide +kernel
theorem dX8_dawn_75 : decode cX8_dawn 75 = .ok (.istore_n 1, 1) := by decide +kernel
theorem dX8_dawn_76 : decode cX8_dawn 76 = .ok (.iload_n 1, 1) := by decide +kernel
theorem dX8_dawn_77 : decode cX8_dawn 77 = .ok (.aload_n 0, 1) := by decide +kernel
theorem dX8_dawn_78 : decode cX8_dawn 78 = .ok (.getfield 7, 3) := by decide +kernel
theorem dX8_dawn_81 : decode cX8_dawn 81 = .ok (.iconst 0, 1) := by decide +kernel
theorem dX8_dawn_82 : decode cX8_dawn 82 = .ok (.iaload, 1) := by decide +kernel
theorem dX8_dawn_83 : decode cX8_dawn 83 = .ok (.if_icmp .ge 28, 3) := by decide +kernel
theorem dX8_dawn_86 : decode cX8_dawn 86 = .ok (.aload_n 0, 1) := by decide +kernel
theorem dX8_dawn_87 : decode cX8_dawn 87 = .ok (.getfield 7, 3) := by decide +kernel
theorem dX8_dawn_90 : decode cX8_dawn 90 = .ok (.bipush 6, 2) := by decide +kernel
theorem dX8_dawn_92 : decode cX8_dawn 92 = .ok (.iconst 3, 1) := by decide +kernel
theorem dX8_dawn_93 : decode cX8_dawn 93 = .ok (.iload_n 1, 1) := by decide +kernel
theorem dX8_dawn_94 : decode cX8_dawn 94 = .ok (.imul, 1) := by decide +kernel
theorem dX8_dawn_95 : decode cX8_dawn 95 = .ok (.iadd, 1) := by decide +kernel
theorem dX8_dawn_96 : decode cX8_dawn 96 = .ok (.iconst 0, 1) := by decide +kernel
theorem dX8_dawn_97 : decode cX8_dawn 97 = .ok (.iadd, 1) := by decide +kernel
theorem dX8_dawn_98 : decode cX8_dawn 98 = .ok (.aload_n 0, 1) := by decide +kernel
theorem dX8_dawn_99 : decode cX8_dawn 99 = .ok (.iload_n 1, 1) := by decide +kernel
theorem dX8_dawn_100 : decode cX8_dawn 100 = .ok (.iconst 1, 1) := by decide +kernel
theorem dX8_dawn_101 : decode cX8_dawn 101 = .ok (.invokevirtual 86, 3) := by decide +kernel
theorem dX8_dawn_104 : decode cX8_dawn 104 = .ok (.iastore, 1) := by decide +kernel
theorem dX8_dawn_105 : decode cX8_dawn 105 = .ok (.iinc 1 1, 3) := by decide +kernel
theorem dX8_dawn_108 : decode cX8_dawn 108 = .ok (.goto (-32), 3) := by decide +kernel
theorem dX8_dawn_111 : decode cX8_dawn 111 = .ok (.aload_n 0, 1) := by decide +kernel
theorem dX8_dawn_112 : decode cX8_dawn 112 = .ok (.getfield 7, 3) := by decide +kernel
theorem dX8_dawn_115 : decode cX8_dawn 115 = .ok (.iconst 3, 1) := by decide +kernel
theorem dX8_dawn_116 : decode cX8_dawn 116 = .ok (.dup2, 1) := by decide +kernel
theorem dX8_dawn_117 : decode cX8_dawn 117 = .ok (.iaload, 1) := by decide +kernel
theorem dX8_dawn_118 : decode cX8_dawn 118 = .ok (.iconst 1, 1) := by decide +kernel
theorem dX8_dawn_119 : decode cX8_dawn 119 = .ok (.iadd, 1) := by decide +kernel
theorem dX8_dawn_120 : decode cX8_dawn 120 = .ok (.iastore, 1) := by decide +kernel
theorem dX8_dawn_121 : decode cX8_dawn 121 = .ok (.aload_n 0, 1) := by decide +kernel
theorem dX8_dawn_122 : decode cX8_dawn 122 = .ok (.getfield 7, 3) := by decide +kernel
theorem dX8_dawn_125 : decode cX8_dawn 125 = .ok (.iconst 2, 1) := by decide +kernel
theorem dX8_dawn_126 : decode cX8_dawn 126 = .ok (.iaload, 1) := by decide +kernel
theorem dX8_dawn_127 : decode cX8_dawn 127 = .ok (.iconst 1, 1) := by decide +kernel
theorem dX8_dawn_128 : decode cX8_dawn 128 = .ok (.isub, 1) := by decide +kernel
theorem dX8_dawn_129 : decode cX8_dawn 129 = .ok (.istore_n 1, 1) := by decide +kernel
theorem dX8_dawn_130 : decode cX8_dawn 130 = .ok (.iload_n 1, 1) := by decide +kernel
theorem dX8_dawn_131 : decode cX8_dawn 131 = .ok (.ifCond .lt 29, 3) := by decide +kernel
theorem dX8_dawn_134 : decode cX8_dawn 134 = .ok (.aload_n 0, 1) := by decide +kernel
theorem dX8_dawn_135 : decode cX8_dawn 135 = .ok (.iload_n 1, 1) := by decide +kernel
theorem dX8_dawn_136 : decode cX8_dawn 136 = .ok (.iconst 4, 1) := by decide +kernel
theorem dX8_dawn_137 : decode cX8_dawn 137 = .ok (.invokevirtual 76, 3) := by decide +kernel
theorem dX8_dawn_140 : decode cX8_dawn 140 = .ok (.aload_n 0, 1) := by decide +kernel
theorem dX8_dawn_141 : decode cX8_dawn 141 = .ok (.getfield 7, 3) := by decide +kernel
theorem dX8_dawn_144 : decode cX8_dawn 144 = .ok (.iconst 3, 1) := by decide +kernel
theorem dX8_dawn_145 : decode cX8_dawn 145 = .ok (.iaload, 1) := by decide +kernel
theorem dX8_dawn_146 : decode cX8_dawn 146 = .ok (.if_icmp .ne 8, 3) := by decide +kernel
theorem dX8_dawn_149 : decode cX8_dawn 149 = .ok (.aload_n 0, 1) := by decide +kernel
theorem dX8_dawn_150 : decode cX8_dawn 150 = .ok (.iload_n 1, 1) := by decide +kernel
theorem dX8_dawn_151 : decode cX8_dawn 151 = .ok (.invokevirtual 124, 3) := by decide +kernel
theorem dX8_dawn_154 : decode cX8_dawn 154 = .ok (.iinc 1 (-1), 3) := by decide +kernel
theorem dX8_dawn_157 : decode cX8_dawn 157 = .ok (.goto (-27), 3) := by decide +kernel
theorem dX8_dawn_160 : decode cX8_dawn 160 = .ok (.iconst 0, 1) := by decide +kernel
theorem dX8_dawn_161 : decode cX8_dawn 161 = .ok (.istore_n 1, 1) := by decide +kernel
theorem dX8_dawn_162 : decode cX8_dawn 162 = .ok (.iconst 0, 1) := by decide +kernel
theorem dX8_dawn_163 : decode cX8_dawn 163 = .ok (.istore_n 2, 1) := by decide +kernel
theorem dX8_dawn_164 : decode cX8_dawn 164 = .ok (.iload_n 2, 1) := by decide +kernel
theorem dX8_dawn_165 : decode cX8_dawn 165 = .ok (.aload_n 0, 1) := by decide +kernel
theorem dX8_dawn_166 : decode cX8_dawn 166 = .ok (.getfield 7, 3) := by decide +kernel
theorem dX8_dawn_169 : decode cX8_dawn 169 = .ok (.iconst 1, 1) := by decide +kernel
theorem dX8_dawn_170 : decode cX8_dawn 170 = .ok (.iaload, 1) := by decide +kernel
theorem dX8_dawn_171 : decode cX8_dawn 171 = .ok (.if_icmp .ge 64, 3) := by decide +kernel
theorem dX8_dawn_174 : decode cX8_dawn 174 = .ok (.aload_n 0, 1) := by decide +kernel
theorem dX8_dawn_175 : decode cX8_dawn 175 = .ok (.iload_n 2, 1) := by decide +kernel
theorem dX8_dawn_176 : decode cX8_dawn 176 = .ok (.iconst 2, 1) := by decide +kernel
theorem dX8_dawn_177 : decode cX8_dawn 177 = .ok (.invokevirtual 72, 3) := by decide +kernel
theorem dX8_dawn_180 : decode cX8_dawn 180 = .ok (.iconst 1, 1) := by decide +kernel
theorem dX8_dawn_181 : decode cX8_dawn 181 = .ok (.if_icmp .ne 6, 3) := by decide +kernel
theorem dX8_dawn_184 : decode cX8_dawn 184 = .ok (.goto 45, 3) := by decide +kernel
theorem dX8_dawn_187 : decode cX8_dawn 187 = .ok (.aload_n 0, 1) := by decide +kernel
theorem dX8_dawn_188 : decode cX8_dawn 188 = .ok (.iload_n 2, 1) := by decide +kernel
theorem dX8_dawn_189 : decode cX8_dawn 189 = .ok (.iconst 0, 1) := by decide +kernel
theorem dX8_dawn_190 : decode cX8_dawn 190 = .ok (.invokevirtual 120, 3) := by decide +kernel
theorem dX8_dawn_193 : decode cX8_dawn 193 = .ok (.istore_n 3, 1) := by decide +kernel
theorem dX8_dawn_194 : decode cX8_dawn 194 = .ok (.iload_n 3, 1) := by decide +kernel
theorem dX8_dawn_195 : decode cX8_dawn 195 = .ok (.ifCond .eq 19, 3) := by decide +kernel
theorem dX8_dawn_198 : decode cX8_dawn 198 = .ok (.aload_n 0, 1) := by decide +kernel
theorem dX8_dawn_199 : decode cX8_dawn 199 = .ok (.iload_n 2, 1) := by decide +kernel
theorem dX8_dawn_200 : decode cX8_dawn 200 = .ok (.iconst 1, 1) := by decide +kernel
theorem dX8_dawn_201 : decode cX8_dawn 201 = .ok (.invokevirtual 72, 3) := by decide +kernel
theorem dX8_dawn_204 : decode cX8_dawn 204 = .ok (.iconst 1, 1) := by decide +kernel
theorem dX8_dawn_205 : decode cX8_dawn 205 = .ok (.if_icmp .ne 9, 3) := by decide +kernel
theorem dX8_dawn_208 : decode cX8_dawn 208 = .ok (.iload_n 1, 1) := by decide +kernel
theorem dX8_dawn_209 : decode cX8_dawn 209 = .ok (.iconst 1, 1) := by decide +kernel
theorem dX8_dawn_210 : decode cX8_dawn 210 = .ok (.iload_n 2, 1) := by decide +kernel
theorem dX8_dawn_211 : decode cX8_dawn 211 = .ok (.ishl, 1) := by decide +kernel
theorem dX8_dawn_212 : decode cX8_dawn 212 = .ok (.ior, 1) := by decide +kernel
theorem dX8_dawn_213 : decode cX8_dawn 213 = .ok (.istore_n 1, 1) := by decide +kernel
theorem dX8_dawn_214 : decode cX8_dawn 214 = .ok (.aload_n 0, 1) := by decide +kernel
theorem dX8_dawn_215 : decode cX8_dawn 215 = .ok (.iload_n 2, 1) := by decide +kernel
theorem dX8_dawn_216 : decode cX8_dawn 216 = .ok (.iconst 1, 1) := by decide +kernel
theorem dX8_dawn_217 : decode cX8_dawn 217 = .ok (.iload_n 3, 1) := by decide +kernel
theorem dX8_dawn_218 : decode cX8_dawn 218 = .ok (.ifCond .eq 7, 3) := by decide +kernel
theorem dX8_dawn_221 : decode cX8_dawn 221 = .ok (.iconst 1, 1) := by decide +kernel
theorem dX8_dawn_222 : decode cX8_dawn 222 = .ok (.goto 4, 3) := by decide +kernel
theorem dX8_dawn_225 : decode cX8_dawn 225 = .ok (.iconst 0, 1) := by decide +kernel
theorem dX8_dawn_226 : decode cX8_dawn 226 = .ok (.invokevirtual 97, 3) := by decide +kernel
theorem dX8_dawn_229 : decode cX8_dawn 229 = .ok (.iinc 2 1, 3) := by decide +kernel
theorem dX8_dawn_232 : decode cX8_dawn 232 = .ok (.goto (-68), 3) := by decide +kernel
theorem dX8_dawn_235 : decode cX8_dawn 235 = .ok (.iconst 0, 1) := by decide +kernel
theorem dX8_dawn_236 : decode cX8_dawn 236 = .ok (.istore_n 2, 1) := by decide +kernel
theorem dX8_dawn_237 : decode cX8_dawn 237 = .ok (.iconst 0, 1) := by decide +kernel
theorem dX8_dawn_238 : decode cX8_dawn 238 = .ok (.istore_n 3, 1) := by decide +kernel
theorem dX8_dawn_239 : decode cX8_dawn 239 = .ok (.iload_n 3, 1) := by decide +kernel
theorem dX8_dawn_240 : decode cX8_dawn 240 = .ok (.aload_n 0, 1) := by decide +kernel
theorem dX8_dawn_241 : decode cX8_dawn 241 = .ok (.getfield 7, 3) := by decide +kernel
theorem dX8_dawn_244 : decode cX8_dawn 244 = .ok (.iconst 1, 1) := by decide +kernel
theorem dX8_dawn_245 : decode cX8_dawn 245 = .ok (.iaload, 1) := by decide +kernel
theorem dX8_dawn_246 : decode cX8_dawn 246 = .ok (.if_icmp .ge 28, 3) := by decide +kernel
theorem dX8_dawn_249 : decode cX8_dawn 249 = .ok (.iload_n 1, 1) := by decide +kernel
theorem dX8_dawn_250 : decode cX8_dawn 250 = .ok (.iload_n 3, 1) := by decide +kernel
theorem dX8_dawn_251 : decode cX8_dawn 251 = .ok (.ishr, 1) := by decide +kernel
theorem dX8_dawn_252 : decode cX8_dawn 252 = .ok (.iconst 1, 1) := by decide +kernel
theorem dX8_dawn_253 : decode cX8_dawn 253 = .ok (.iand, 1) := by decide +kernel
theorem dX8_dawn_254 : decode cX8_dawn 254 = .ok (.ifCond .ne 6, 3) := by decide +kernel
theorem dX8_dawn_257 : decode cX8_dawn 257 = .ok (.goto 11, 3) := by decide +kernel
theorem dX8_dawn_260 : decode cX8_dawn 260 = .ok (.aload_n 0, 1) := by decide +kernel
theorem dX8_dawn_261 : decode cX8_dawn 261 = .ok (.iload_n 3, 1) := by decide +kernel
theorem dX8_dawn_262 : decode cX8_dawn 262 = .ok (.invokevirtual 154, 3) := by decide +kernel
theorem dX8_dawn_265 : decode cX8_dawn 265 = .ok (.iinc 2 1, 3) := by decide +kernel
theorem dX8_dawn_268 : decode cX8_dawn 268 = .ok (.iinc 3 1, 3) := by decide +kernel
theorem dX8_dawn_271 : decode cX8_dawn 271 = .ok (.goto (-32), 3) := by decide +kernel
theorem dX8_dawn_274 : decode cX8_dawn 274 = .ok (.iload_n 2, 1) := by decide +kernel
theorem dX8_dawn_275 : decode cX8_dawn 275 = .ok (.ireturn, 1) := by decide +kernel
theorem dX8_isRefused_0 : decode cX8_isRefused 0 = .ok (.aload_n 0, 1) := by decide +kernel
theorem dX8_isRefused_1 : decode cX8_isRefused 1 = .ok (.aload_n 0, 1) := by decide +kernel
theorem dX8_isRefused_2 : decode cX8_isRefused 2 = .ok (.iload_n 1, 1) := by decide +kernel
theorem dX8_isRefused_3 : decode cX8_isRefused 3 = .ok (.invokevirtual 107, 3) := by decide +kernel
theorem dX8_isRefused_6 : decode cX8_isRefused 6 = .ok (.ifCond .ne 7, 3) := by decide +kernel
theorem dX8_isRefused_9 : decode cX8_isRefused 9 = .ok (.iconst 1, 1) := by decide +kernel
theorem dX8_isRefused_10 : decode cX8_isRefused 10 = .ok (.goto 33, 3) := by decide +kernel
theorem dX8_isRefused_13 : decode cX8_isRefused 13 = .ok (.iload_n 2, 1) := by decide +kernel
theorem dX8_isRefused_14 : decode cX8_isRefused 14 = .ok (.iconst 1, 1) := by decide +kernel
theorem dX8_isRefused_15 : decode cX8_isRefused 15 = .ok (.sipush 9999, 3) := by decide +kernel
theorem dX8_isRefused_18 : decode cX8_isRefused 18 = .ok (.invokestatic 68, 3) := by decide +kernel
theorem dX8_isRefused_21 : decode cX8_isRefused 21 = .ok (.ifCond .ne 7, 3) := by decide +kernel
theorem dX8_isRefused_24 : decode cX8_isRefused 24 = .ok (.iconst 2, 1) := by decide +kernel
theorem dX8_isRefused_25 : decode cX8_isRefused 25 = .ok (.goto 18, 3) := by decide +kernel
theorem dX8_isRefused_28 : decode cX8_isRefused 28 = .ok (.aload_n 0, 1) := by decide +kernel
theorem dX8_isRefused_29 : decode cX8_isRefused 29 = .ok (.iload_n 1, 1) := by decide +kernel
theorem dX8_isRefused_30 : decode cX8_isRefused 30 = .ok (.iconst 2, 1) := by decide +kernel
theorem dX8_isRefused_31 : decode cX8_isRefused 31 = .ok (.invokevirtual 72, 3) := by decide +kernel
theorem dX8_isRefused_34 : decode cX8_isRefused 34 = .ok (.iconst 1, 1) := by decide +kernel
theorem dX8_isRefused_35 : decode cX8_isRefused 35 = .ok (.if_icmp .ne 7, 3) := by decide +kernel
theorem dX8_isRefused_38 : decode cX8_isRefused 38 = .ok (.iconst 3, 1) := by decide +kernel
theorem dX8_isRefused_39 : decode cX8_isRefused 39 = .ok (.goto 4, 3) := by decide +kernel
theorem dX8_isRefused_42 : decode cX8_isRefused 42 = .ok (.iconst 0, 1) := by decide +kernel
theorem dX8_isRefused_43 : decode cX8_isRefused 43 = .ok (.invokevirtual 89, 3) := by decide +kernel
theorem dX8_isRefused_46 : decode cX8_isRefused 46 = .ok (.ireturn, 1) := by decide +kernel
theorem dX8_deposit_0 : decode cX8_deposit 0 = .ok (.aload_n 0, 1) := by decide +kernel
theorem dX8_deposit_1 : decode cX8_deposit 1 = .ok (.iload_n 1, 1) := by decide +kernel
theorem dX8_deposit_2 : decode cX8_deposit 2 = .ok (.iload_n 2, 1) := by decide +kernel
theorem dX8_deposit_3 : decode cX8_deposit 3 = .ok (.invokevirtual 157, 3) := by decide +kernel
theorem dX8_deposit_6 : decode cX8_deposit 6 = .ok (.ifCond .eq 5, 3) := by decide +kernel
theorem dX8_deposit_9 : decode cX8_deposit 9 = .ok (.iconst 0, 1) := by decide +kernel
theorem dX8_deposit_10 : decode cX8_deposit 10 = .ok (.ireturn, 1) := by decide +kernel
theorem dX8_deposit_11 : decode cX8_deposit 11 = .ok (.aload_n 0, 1) := by decide +kernel
theorem dX8_deposit_12 : decode cX8_deposit 12 = .ok (.aload_n 0, 1) := by decide +kernel
theorem dX8_deposit_13 : decode cX8_deposit 13 = .ok (.getfield 7, 3) := by decide +kernel
theorem dX8_deposit_16 : decode cX8_deposit 16 = .ok (.invokevirtual 93, 3) := by decide +kernel
theorem dX8_deposit_19 : decode cX8_deposit 19 = .ok (.aload_n 0, 1) := by decide +kernel
theorem dX8_deposit_20 : decode cX8_deposit 20 = .ok (.iload_n 1, 1) := by decide +kernel
theorem dX8_deposit_21 : decode cX8_deposit 21 = .ok (.iconst 0, 1) := by decide +kernel
theorem dX8_deposit_22 : decode cX8_deposit 22 = .ok (.aload_n 0, 1) := by decide +kernel
theorem dX8_deposit_23 : decode cX8_deposit 23 = .ok (.iload_n 1, 1) := by decide +kernel
theorem dX8_deposit_24 : decode cX8_deposit 24 = .ok (.iconst 0, 1) := by decide +kernel
theorem dX8_deposit_25 : decode cX8_deposit 25 = .ok (.invokevirtual 72, 3) := by decide +kernel
theorem dX8_deposit_28 : decode cX8_deposit 28 = .ok (.iload_n 2, 1) := by decide +kernel
theorem dX8_deposit_29 : decode cX8_deposit 29 = .ok (.iadd, 1) := by decide +kernel
theorem dX8_deposit_30 : decode cX8_deposit 30 = .ok (.invokevirtual 97, 3) := by decide +kernel
theorem dX8_deposit_33 : decode cX8_deposit 33 = .ok (.aload_n 0, 1) := by decide +kernel
theorem dX8_deposit_34 : decode cX8_deposit 34 = .ok (.getfield 7, 3) := by decide +kernel
theorem dX8_deposit_37 : decode cX8_deposit 37 = .ok (.sipush 136, 3) := by decide +kernel
theorem dX8_deposit_40 : decode cX8_deposit 40 = .ok (.dup2, 1) := by decide +kernel
theorem dX8_deposit_41 : decode cX8_deposit 41 = .ok (.iaload, 1) := by decide +kernel
theorem dX8_deposit_42 : decode cX8_deposit 42 = .ok (.iload_n 2, 1) := by decide +kernel
theorem dX8_deposit_43 : decode cX8_deposit 43 = .ok (.iadd, 1) := by decide +kernel
theorem dX8_deposit_44 : decode cX8_deposit 44 = .ok (.iastore, 1) := by decide +kernel
theorem dX8_deposit_45 : decode cX8_deposit 45 = .ok (.aload_n 0, 1) := by decide +kernel
theorem dX8_deposit_46 : decode cX8_deposit 46 = .ok (.iload_n 1, 1) := by decide +kernel
theorem dX8_deposit_47 : decode cX8_deposit 47 = .ok (.iconst 0, 1) := by decide +kernel
theorem dX8_deposit_48 : decode cX8_deposit 48 = .ok (.invokevirtual 72, 3) := by decide +kernel
theorem dX8_deposit_51 : decode cX8_deposit 51 = .ok (.ireturn, 1) := by decide +kernel
theorem dX8_withdraw_0 : decode cX8_withdraw 0 = .ok (.aload_n 0, 1) := by decide +kernel
theorem dX8_withdraw_1 : decode cX8_withdraw 1 = .ok (.iload_n 1, 1) := by decide +kernel
theorem dX8_withdraw_2 : decode cX8_withdraw 2 = .ok (.iload_n 2, 1) := by decide +kernel
theorem dX8_withdraw_3 : decode cX8_withdraw 3 = .ok (.invokevirtual 157, 3) := by decide +kernel
theorem dX8_withdraw_6 : decode cX8_withdraw 6 = .ok (.ifCond .ne 24, 3) := by decide +kernel
theorem dX8_withdraw_9 : decode cX8_withdraw 9 = .ok (.aload_n 0, 1) := by decide +kernel
theorem dX8_withdraw_10 : decode cX8_withdraw 10 = .ok (.aload_n 0, 1) := by decide +kernel
theorem dX8_withdraw_11 : decode cX8_withdraw 11 = .ok (.iload_n 1, 1) := by decide +kernel
theorem dX8_withdraw_12 : decode cX8_withdraw 12 = .ok (.iload_n 2, 1) := by decide +kernel
theorem dX8_withdraw_13 : decode cX8_withdraw 13 = .ok (.invokevirtual 120, 3) := by decide +kernel
theorem dX8_withdraw_16 : decode cX8_withdraw 16 = .ok (.ifCond .eq 7, 3) := by decide +kernel
theorem dX8_withdraw_19 : decode cX8_withdraw 19 = .ok (.iconst 4, 1) := by decide +kernel
theorem dX8_withdraw_20 : decode cX8_withdraw 20 = .ok (.goto 4, 3) := by decide +kernel
theorem dX8_withdraw_23 : decode cX8_withdraw 23 = .ok (.iconst 0, 1) := by decide +kernel
theorem dX8_withdraw_24 : decode cX8_withdraw 24 = .ok (.invokevirtual 89, 3) := by decide +kernel
theorem dX8_withdraw_27 : decode cX8_withdraw 27 = .ok (.ifCond .eq 5, 3) := by decide +kernel
theorem dX8_withdraw_30 : decode cX8_withdraw 30 = .ok (.iconst 0, 1) := by decide +kernel
theorem dX8_withdraw_31 : decode cX8_withdraw 31 = .ok (.ireturn, 1) := by decide +kernel
theorem dX8_withdraw_32 : decode cX8_withdraw 32 = .ok (.aload_n 0, 1) := by decide +kernel
theorem dX8_withdraw_33 : decode cX8_withdraw 33 = .ok (.aload_n 0, 1) := by decide +kernel
theorem dX8_withdraw_34 : decode cX8_withdraw 34 = .ok (.getfield 7, 3) := by decide +kernel
theorem dX8_withdraw_37 : decode cX8_withdraw 37 = .ok (.invokevirtual 93, 3) := by decide +kernel
theorem dX8_withdraw_40 : decode cX8_withdraw 40 = .ok (.aload_n 0, 1) := by decide +kernel
theorem dX8_withdraw_41 : decode cX8_withdraw 41 = .ok (.iload_n 1, 1) := by decide +kernel
theorem dX8_withdraw_42 : decode cX8_withdraw 42 = .ok (.iconst 0, 1) := by decide +kernel
theorem dX8_withdraw_43 : decode cX8_withdraw 43 = .ok (.aload_n 0, 1) := by decide +kernel
theorem dX8_withdraw_44 : decode cX8_withdraw 44 = .ok (.iload_n 1, 1) := by decide +kernel
theorem dX8_withdraw_45 : decode cX8_withdraw 45 = .ok (.iconst 0, 1) := by decide +kernel
theorem dX8_withdraw_46 : decode cX8_withdraw 46 = .ok (.invokevirtual 72, 3) := by decide +kernel
theorem dX8_withdraw_49 : decode cX8_withdraw 49 = .ok (.iload_n 2, 1) := by decide +kernel
theorem dX8_withdraw_50 : decode cX8_withdraw 50 = .ok (.isub, 1) := by decide +kernel
theorem dX8_withdraw_51 : decode cX8_withdraw 51 = .ok (.invokevirtual 97, 3) := by decide +kernel
theorem dX8_withdraw_54 : decode cX8_withdraw 54 = .ok (.aload_n 0, 1) := by decide +kernel
theorem dX8_withdraw_55 : decode cX8_withdraw 55 = .ok (.getfield 7, 3) := by decide +kernel
theorem dX8_withdraw_58 : decode cX8_withdraw 58 = .ok (.sipush 137, 3) := by decide +kernel
theorem dX8_withdraw_61 : decode cX8_withdraw 61 = .ok (.dup2, 1) := by decide +kernel
theorem dX8_withdraw_62 : decode cX8_withdraw 62 = .ok (.iaload, 1) := by decide +kernel
theorem dX8_withdraw_63 : decode cX8_withdraw 63 = .ok (.iload_n 2, 1) := by decide +kernel
theorem dX8_withdraw_64 : decode cX8_withdraw 64 = .ok (.iadd, 1) := by decide +kernel
theorem dX8_withdraw_65 : decode cX8_withdraw 65 = .ok (.iastore, 1) := by decide +kernel
theorem dX8_withdraw_66 : decode cX8_withdraw 66 = .ok (.aload_n 0, 1) := by decide +kernel
theorem dX8_withdraw_67 : decode cX8_withdraw 67 = .ok (.iload_n 1, 1) := by decide +kernel
theorem dX8_withdraw_68 : decode cX8_withdraw 68 = .ok (.iconst 0, 1) := by decide +kernel
theorem dX8_withdraw_69 : decode cX8_withdraw 69 = .ok (.invokevirtual 72, 3) := by decide +kernel
theorem dX8_withdraw_72 : decode cX8_withdraw 72 = .ok (.ireturn, 1) := by decide +kernel
theorem dX8_contribute_0 : decode cX8_contribute 0 = .ok (.aload_n 0, 1) := by decide +kernel
theorem dX8_contribute_1 : decode cX8_contribute 1 = .ok (.iload_n 1, 1) := by decide +kernel
theorem dX8_contribute_2 : decode cX8_contribute 2 = .ok (.iload_n 2, 1) := by decide +kernel
theorem dX8_contribute_3 : decode cX8_contribute 3 = .ok (.invokevirtual 157, 3) := by decide +kernel
theorem dX8_contribute_6 : decode cX8_contribute 6 = .ok (.ifCond .ne 24, 3) := by decide +kernel
theorem dX8_contribute_9 : decode cX8_contribute 9 = .ok (.aload_n 0, 1) := by decide +kernel
theorem dX8_contribute_10 : decode cX8_contribute 10 = .ok (.aload_n 0, 1) := by decide +kernel
theorem dX8_contribute_11 : decode cX8_contribute 11 = .ok (.iload_n 1, 1) := by decide +kernel
theorem dX8_contribute_12 : decode cX8_contribute 12 = .ok (.iload_n 2, 1) := by decide +kernel
theorem dX8_contribute_13 : decode cX8_contribute 13 = .ok (.invokevirtual 120, 3) := by decide +kernel
theorem dX8_contribute_16 : decode cX8_contribute 16 = .ok (.ifCond .eq 7, 3) := by decide +kernel
theorem dX8_contribute_19 : decode cX8_contribute 19 = .ok (.iconst 4, 1) := by decide +kernel
theorem dX8_contribute_20 : decode cX8_contribute 20 = .ok (.goto 4, 3) := by decide +kernel
theorem dX8_contribute_23 : decode cX8_contribute 23 = .ok (.iconst 0, 1) := by decide +kernel
theorem dX8_contribute_24 : decode cX8_contribute 24 = .ok (.invokevirtual 89, 3) := by decide +kernel
theorem dX8_contribute_27 : decode cX8_contribute 27 = .ok (.ifCond .eq 5, 3) := by decide +kernel
theorem dX8_contribute_30 : decode cX8_contribute 30 = .ok (.iconst 0, 1) := by decide +kernel
theorem dX8_contribute_31 : decode cX8_contribute 31 = .ok (.ireturn, 1) := by decide +kernel
theorem dX8_contribute_32 : decode cX8_contribute 32 = .ok (.aload_n 0, 1) := by decide +kernel
theorem dX8_contribute_33 : decode cX8_contribute 33 = .ok (.aload_n 0, 1) := by decide +kernel
theorem dX8_contribute_34 : decode cX8_contribute 34 = .ok (.getfield 7, 3) := by decide +kernel
theorem dX8_contribute_37 : decode cX8_contribute 37 = .ok (.invokevirtual 93, 3) := by decide +kernel
theorem dX8_contribute_40 : decode cX8_contribute 40 = .ok (.aload_n 0, 1) := by decide +kernel
theorem dX8_contribute_41 : decode cX8_contribute 41 = .ok (.iload_n 1, 1) := by decide +kernel
theorem dX8_contribute_42 : decode cX8_contribute 42 = .ok (.iconst 0, 1) := by decide +kernel
theorem dX8_contribute_43 : decode cX8_contribute 43 = .ok (.aload_n 0, 1) := by decide +kernel
theorem dX8_contribute_44 : decode cX8_contribute 44 = .ok (.iload_n 1, 1) := by decide +kernel
theorem dX8_contribute_45 : decode cX8_contribute 45 = .ok (.iconst 0, 1) := by decide +kernel
theorem dX8_contribute_46 : decode cX8_contribute 46 = .ok (.invokevirtual 72, 3) := by decide +kernel
theorem dX8_contribute_49 : decode cX8_contribute 49 = .ok (.iload_n 2, 1) := by decide +kernel
theorem dX8_contribute_50 : decode cX8_contribute 50 = .ok (.isub, 1) := by decide +kernel
theorem dX8_contribute_51 : decode cX8_contribute 51 = .ok (.invokevirtual 97, 3) := by decide +kernel
theorem dX8_contribute_54 : decode cX8_contribute 54 = .ok (.aload_n 0, 1) := by decide +kernel
theorem dX8_contribute_55 : decode cX8_contribute 55 = .ok (.getfield 7, 3) := by decide +kernel
theorem dX8_contribute_58 : decode cX8_contribute 58 = .ok (.iconst 4, 1) := by decide +kernel
theorem dX8_contribute_59 : decode cX8_contribute 59 = .ok (.dup2, 1) := by decide +kernel
theorem dX8_contribute_60 : decode cX8_contribute 60 = .ok (.iaload, 1) := by decide +kernel
theorem dX8_contribute_61 : decode cX8_contribute 61 = .ok (.iload_n 2, 1) := by decide +kernel
theorem dX8_contribute_62 : decode cX8_contribute 62 = .ok (.iadd, 1) := by decide +kernel
theorem dX8_contribute_63 : decode cX8_contribute 63 = .ok (.iastore, 1) := by decide +kernel
theorem dX8_contribute_64 : decode cX8_contribute 64 = .ok (.aload_n 0, 1) := by decide +kernel
theorem dX8_contribute_65 : decode cX8_contribute 65 = .ok (.getfield 7, 3) := by decide +kernel
theorem dX8_contribute_68 : decode cX8_contribute 68 = .ok (.iconst 4, 1) := by decide +kernel
theorem dX8_contribute_69 : decode cX8_contribute 69 = .ok (.iaload, 1) := by decide +kernel
theorem dX8_contribute_70 : decode cX8_contribute 70 = .ok (.ireturn, 1) := by decide +kernel
theorem dX8_horizonCount_0 : decode cX8_horizonCount 0 = .ok (.aload_n 0, 1) := by decide +kernel
theorem dX8_horizonCount_1 : decode cX8_horizonCount 1 = .ok (.iconst 0, 1) := by decide +kernel
theorem dX8_horizonCount_2 : decode cX8_horizonCount 2 = .ok (.putfield 54, 3) := by decide +kernel
theorem dX8_horizonCount_5 : decode cX8_horizonCount 5 = .ok (.aload_n 0, 1) := by decide +kernel
theorem dX8_horizonCount_6 : decode cX8_horizonCount 6 = .ok (.getfield 7, 3) := by decide +kernel
theorem dX8_horizonCount_9 : decode cX8_horizonCount 9 = .ok (.iconst 0, 1) := by decide +kernel
theorem dX8_horizonCount_10 : decode cX8_horizonCount 10 = .ok (.iaload, 1) := by decide +kernel
theorem dX8_horizonCount_11 : decode cX8_horizonCount 11 = .ok (.ireturn, 1) := by decide +kernel
theorem dX8_ofHorizon_0 : decode cX8_ofHorizon 0 = .ok (.aload_n 0, 1) := by decide +kernel
theorem dX8_ofHorizon_1 : decode cX8_ofHorizon 1 = .ok (.aload_n 0, 1) := by decide +kernel
theorem dX8_ofHorizon_2 : decode cX8_ofHorizon 2 = .ok (.iload_n 1, 1) := by decide +kernel
theorem dX8_ofHorizon_3 : decode cX8_ofHorizon 3 = .ok (.invokevirtual 110, 3) := by decide +kernel
theorem dX8_ofHorizon_6 : decode cX8_ofHorizon 6 = .ok (.ifCond .eq 7, 3) := by decide +kernel
theorem dX8_ofHorizon_9 : decode cX8_ofHorizon 9 = .ok (.iconst 0, 1) := by decide +kernel
theorem dX8_ofHorizon_10 : decode cX8_ofHorizon 10 = .ok (.goto 4, 3) := by decide +kernel
theorem dX8_ofHorizon_13 : decode cX8_ofHorizon 13 = .ok (.iconst 1, 1) := by decide +kernel
theorem dX8_ofHorizon_14 : decode cX8_ofHorizon 14 = .ok (.invokevirtual 89, 3) := by decide +kernel
theorem dX8_ofHorizon_17 : decode cX8_ofHorizon 17 = .ok (.ifCond .eq 7, 3) := by decide +kernel
theorem dX8_ofHorizon_20 : decode cX8_ofHorizon 20 = .ok (.iconst 0, 1) := by decide +kernel
theorem dX8_ofHorizon_21 : decode cX8_ofHorizon 21 = .ok (.goto 9, 3) := by decide +kernel
theorem dX8_ofHorizon_24 : decode cX8_ofHorizon 24 = .ok (.aload_n 0, 1) := by decide +kernel
theorem dX8_ofHorizon_25 : decode cX8_ofHorizon 25 = .ok (.iload_n 1, 1) := by decide +kernel
theorem dX8_ofHorizon_26 : decode cX8_ofHorizon 26 = .ok (.iload_n 2, 1) := by decide +kernel
theorem dX8_ofHorizon_27 : decode cX8_ofHorizon 27 = .ok (.invokevirtual 86, 3) := by decide +kernel
theorem dX8_ofHorizon_30 : decode cX8_ofHorizon 30 = .ok (.ireturn, 1) := by decide +kernel
theorem dX8_priceOf_0 : decode cX8_priceOf 0 = .ok (.aload_n 0, 1) := by decide +kernel
theorem dX8_priceOf_1 : decode cX8_priceOf 1 = .ok (.iload_n 1, 1) := by decide +kernel
theorem dX8_priceOf_2 : decode cX8_priceOf 2 = .ok (.iconst 0, 1) := by decide +kernel
theorem dX8_priceOf_3 : decode cX8_priceOf 3 = .ok (.invokevirtual 160, 3) := by decide +kernel
theorem dX8_priceOf_6 : decode cX8_priceOf 6 = .ok (.ireturn, 1) := by decide +kernel
theorem dX8_quoteOf_0 : decode cX8_quoteOf 0 = .ok (.aload_n 0, 1) := by decide +kernel
theorem dX8_quoteOf_1 : decode cX8_quoteOf 1 = .ok (.iload_n 1, 1) := by decide +kernel
theorem dX8_quoteOf_2 : decode cX8_quoteOf 2 = .ok (.iconst 1, 1) := by decide +kernel
theorem dX8_quoteOf_3 : decode cX8_quoteOf 3 = .ok (.invokevirtual 160, 3) := by decide +kernel
theorem dX8_quoteOf_6 : decode cX8_quoteOf 6 = .ok (.ireturn, 1) := by decide +kernel
theorem dX8_rangeOf_0 : decode cX8_rangeOf 0 = .ok (.aload_n 0, 1) := by decide +kernel
theorem dX8_rangeOf_1 : decode cX8_rangeOf 1 = .ok (.iload_n 1, 1) := by decide +kernel
theorem dX8_rangeOf_2 : decode cX8_rangeOf 2 = .ok (.iconst 2, 1) := by decide +kernel
theorem dX8_rangeOf_3 : decode cX8_rangeOf 3 = .ok (.invokevirtual 160, 3) := by decide +kernel
theorem dX8_rangeOf_6 : decode cX8_rangeOf 6 = .ok (.ireturn, 1) := by decide +kernel
theorem dX8_traderCount_0 : decode cX8_traderCount 0 = .ok (.aload_n 0, 1) := by decide +kernel
theorem dX8_traderCount_1 : decode cX8_traderCount 1 = .ok (.iconst 0, 1) := by decide +kernel
theorem dX8_traderCount_2 : decode cX8_traderCount 2 = .ok (.putfield 54, 3) := by decide +kernel
theorem dX8_traderCount_5 : decode cX8_traderCount 5 = .ok (.aload_n 0, 1) := by decide +kernel
theorem dX8_traderCount_6 : decode cX8_traderCount 6 = .ok (.getfield 7, 3) := by decide +kernel
theorem dX8_traderCount_9 : decode cX8_traderCount 9 = .ok (.iconst 1, 1) := by decide +kernel
theorem dX8_traderCount_10 : decode cX8_traderCount 10 = .ok (.iaload, 1) := by decide +kernel
theorem dX8_traderCount_11 : decode cX8_traderCount 11 = .ok (.ireturn, 1) := by decide +kernel
theorem dX8_ofTrader_0 : decode cX8_ofTrader 0 = .ok (.aload_n 0, 1) := by decide +kernel
theorem dX8_ofTrader_1 : decode cX8_ofTrader 1 = .ok (.aload_n 0, 1) := by decide +kernel
theorem dX8_ofTrader_2 : decode cX8_ofTrader 2 = .ok (.iload_n 1, 1) := by decide +kernel
theorem dX8_ofTrader_3 : decode cX8_ofTrader 3 = .ok (.invokevirtual 107, 3) := by decide +kernel
theorem dX8_ofTrader_6 : decode cX8_ofTrader 6 = .ok (.ifCond .eq 7, 3) := by decide +kernel
theorem dX8_ofTrader_9 : decode cX8_ofTrader 9 = .ok (.iconst 0, 1) := by decide +kernel
theorem dX8_ofTrader_10 : decode cX8_ofTrader 10 = .ok (.goto 4, 3) := by decide +kernel
theorem dX8_ofTrader_13 : decode cX8_ofTrader 13 = .ok (.iconst 1, 1) := by decide +kernel
theorem dX8_ofTrader_14 : decode cX8_ofTrader 14 = .ok (.invokevirtual 89, 3) := by decide +kernel
theorem dX8_ofTrader_17 : decode cX8_ofTrader 17 = .ok (.ifCond .eq 7, 3) := by decide +kernel
theorem dX8_ofTrader_20 : decode cX8_ofTrader 20 = .ok (.iconst 0, 1) := by decide +kernel
theorem dX8_ofTrader_21 : decode cX8_ofTrader 21 = .ok (.goto 9, 3) := by decide +kernel
theorem dX8_ofTrader_24 : decode cX8_ofTrader 24 = .ok (.aload_n 0, 1) := by decide +kernel
theorem dX8_ofTrader_25 : decode cX8_ofTrader 25 = .ok (.iload_n 1, 1) := by decide +kernel
theorem dX8_ofTrader_26 : decode cX8_ofTrader 26 = .ok (.iload_n 2, 1) := by decide +kernel
theorem dX8_ofTrader_27 : decode cX8_ofTrader 27 = .ok (.invokevirtual 72, 3) := by decide +kernel
theorem dX8_ofTrader_30 : decode cX8_ofTrader 30 = .ok (.ireturn, 1) := by decide +kernel
theorem dX8_moneyOf_0 : decode cX8_moneyOf 0 = .ok (.aload_n 0, 1) := by decide +kernel
theorem dX8_moneyOf_1 : decode cX8_moneyOf 1 = .ok (.iload_n 1, 1) := by decide +kernel
theorem dX8_moneyOf_2 : decode cX8_moneyOf 2 = .ok (.iconst 0, 1) := by decide +kernel
theorem dX8_moneyOf_3 : decode cX8_moneyOf 3 = .ok (.invokevirtual 163, 3) := by decide +kernel
theorem dX8_moneyOf_6 : decode cX8_moneyOf 6 = .ok (.ireturn, 1) := by decide +kernel
theorem dX8_isCalled_0 : decode cX8_isCalled 0 = .ok (.aload_n 0, 1) := by decide +kernel
theorem dX8_isCalled_1 : decode cX8_isCalled 1 = .ok (.iload_n 1, 1) := by decide +kernel
theorem dX8_isCalled_2 : decode cX8_isCalled 2 = .ok (.iconst 1, 1) := by decide +kernel
theorem dX8_isCalled_3 : decode cX8_isCalled 3 = .ok (.invokevirtual 163, 3) := by decide +kernel
theorem dX8_isCalled_6 : decode cX8_isCalled 6 = .ok (.iconst 1, 1) := by decide +kernel
theorem dX8_isCalled_7 : decode cX8_isCalled 7 = .ok (.if_icmp .ne 7, 3) := by decide +kernel
theorem dX8_isCalled_10 : decode cX8_isCalled 10 = .ok (.iconst 1, 1) := by decide +kernel
theorem dX8_isCalled_11 : decode cX8_isCalled 11 = .ok (.goto 4, 3) := by decide +kernel
theorem dX8_isCalled_14 : decode cX8_isCalled 14 = .ok (.iconst 0, 1) := by decide +kernel
theorem dX8_isCalled_15 : decode cX8_isCalled 15 = .ok (.ireturn, 1) := by decide +kernel
theorem dX8_hasDefaulted_0 : decode cX8_hasDefaulted 0 = .ok (.aload_n 0, 1) := by decide +kernel
theorem dX8_hasDefaulted_1 : decode cX8_hasDefaulted 1 = .ok (.iload_n 1, 1) := by decide +kernel
theorem dX8_hasDefaulted_2 : decode cX8_hasDefaulted 2 = .ok (.iconst 2, 1) := by decide +kernel
theorem dX8_hasDefaulted_3 : decode cX8_hasDefaulted 3 = .ok (.invokevirtual 163, 3) := by decide +kernel
theorem dX8_hasDefaulted_6 : decode cX8_hasDefaulted 6 = .ok (.iconst 1, 1) := by decide +kernel
theorem dX8_hasDefaulted_7 : decode cX8_hasDefaulted 7 = .ok (.if_icmp .ne 7, 3) := by decide +kernel
theorem dX8_hasDefaulted_10 : decode cX8_hasDefaulted 10 = .ok (.iconst 1, 1) := by decide +kernel
theorem dX8_hasDefaulted_11 : decode cX8_hasDefaulted 11 = .ok (.goto 4, 3) := by decide +kernel
theorem dX8_hasDefaulted_14 : decode cX8_hasDefaulted 14 = .ok (.iconst 0, 1) := by decide +kernel
theorem dX8_hasDefaulted_15 : decode cX8_hasDefaulted 15 = .ok (.ireturn, 1) := by decide +kernel
theorem dX8_positionOf_0 : decode cX8_positionOf 0 = .ok (.aload_n 0, 1) := by decide +kernel
theorem dX8_positionOf_1 : decode cX8_positionOf 1 = .ok (.aload_n 0, 1) := by decide +kernel
theorem dX8_positionOf_2 : decode cX8_positionOf 2 = .ok (.iload_n 1, 1) := by decide +kernel
theorem dX8_positionOf_3 : decode cX8_positionOf 3 = .ok (.invokevirtual 107, 3) := by decide +kernel
theorem dX8_positionOf_6 : decode cX8_positionOf 6 = .ok (.ifCond .eq 15, 3) := by decide +kernel
theorem dX8_positionOf_9 : decode cX8_positionOf 9 = .ok (.aload_n 0, 1) := by decide +kernel
theorem dX8_positionOf_10 : decode cX8_positionOf 10 = .ok (.iload_n 2, 1) := by decide +kernel
theorem dX8_positionOf_11 : decode cX8_positionOf 11 = .ok (.invokevirtual 110, 3) := by decide +kernel
theorem dX8_positionOf_14 : decode cX8_positionOf 14 = .ok (.ifCond .eq 7, 3) := by decide +kernel
theorem dX8_positionOf_17 : decode cX8_positionOf 17 = .ok (.iconst 0, 1) := by decide +kernel
theorem dX8_positionOf_18 : decode cX8_positionOf 18 = .ok (.goto 4, 3) := by decide +kernel
theorem dX8_positionOf_21 : decode cX8_positionOf 21 = .ok (.iconst 1, 1) := by decide +kernel
theorem dX8_positionOf_22 : decode cX8_positionOf 22 = .ok (.invokevirtual 89, 3) := by decide +kernel
theorem dX8_positionOf_25 : decode cX8_positionOf 25 = .ok (.ifCond .eq 7, 3) := by decide +kernel
theorem dX8_positionOf_28 : decode cX8_positionOf 28 = .ok (.iconst 0, 1) := by decide +kernel
theorem dX8_positionOf_29 : decode cX8_positionOf 29 = .ok (.goto 9, 3) := by decide +kernel
theorem dX8_positionOf_32 : decode cX8_positionOf 32 = .ok (.aload_n 0, 1) := by decide +kernel
theorem dX8_positionOf_33 : decode cX8_positionOf 33 = .ok (.iload_n 1, 1) := by decide +kernel
theorem dX8_positionOf_34 : decode cX8_positionOf 34 = .ok (.iload_n 2, 1) := by decide +kernel
theorem dX8_positionOf_35 : decode cX8_positionOf 35 = .ok (.invokevirtual 79, 3) := by decide +kernel
theorem dX8_positionOf_38 : decode cX8_positionOf 38 = .ok (.ireturn, 1) := by decide +kernel
theorem dX8_openQuantity_0 : decode cX8_openQuantity 0 = .ok (.aload_n 0, 1) := by decide +kernel
theorem dX8_openQuantity_1 : decode cX8_openQuantity 1 = .ok (.aload_n 0, 1) := by decide +kernel
theorem dX8_openQuantity_2 : decode cX8_openQuantity 2 = .ok (.iload_n 1, 1) := by decide +kernel
theorem dX8_openQuantity_3 : decode cX8_openQuantity 3 = .ok (.invokevirtual 110, 3) := by decide +kernel
theorem dX8_openQuantity_6 : decode cX8_openQuantity 6 = .ok (.ifCond .eq 7, 3) := by decide +kernel
theorem dX8_openQuantity_9 : decode cX8_openQuantity 9 = .ok (.iconst 0, 1) := by decide +kernel
theorem dX8_openQuantity_10 : decode cX8_openQuantity 10 = .ok (.goto 4, 3) := by decide +kernel
theorem dX8_openQuantity_13 : decode cX8_openQuantity 13 = .ok (.iconst 1, 1) := by decide +kernel
theorem dX8_openQuantity_14 : decode cX8_openQuantity 14 = .ok (.invokevirtual 89, 3) := by decide +kernel
theorem dX8_openQuantity_17 : decode cX8_openQuantity 17 = .ok (.ifCond .eq 5, 3) := by decide +kernel
theorem dX8_openQuantity_20 : decode cX8_openQuantity 20 = .ok (.iconst 0, 1) := by decide +kernel
theorem dX8_openQuantity_21 : decode cX8_openQuantity 21 = .ok (.ireturn, 1) := by decide +kernel
theorem dX8_openQuantity_22 : decode cX8_openQuantity 22 = .ok (.iconst 0, 1) := by decide +kernel
theorem dX8_openQuantity_23 : decode cX8_openQuantity 23 = .ok (.istore_n 2, 1) := by decide +kernel
theorem dX8_openQuantity_24 : decode cX8_openQuantity 24 = .ok (.iconst 0, 1) := by decide +kernel
theorem dX8_openQuantity_25 : decode cX8_openQuantity 25 = .ok (.istore_n 3, 1) := by decide +kernel
theorem dX8_openQuantity_26 : decode cX8_openQuantity 26 = .ok (.iload_n 3, 1) := by decide +kernel
theorem dX8_openQuantity_27 : decode cX8_openQuantity 27 = .ok (.aload_n 0, 1) := by decide +kernel
theorem dX8_openQuantity_28 : decode cX8_openQuantity 28 = .ok (.getfield 7, 3) := by decide +kernel
theorem dX8_openQuantity_31 : decode cX8_openQuantity 31 = .ok (.iconst 2, 1) := by decide +kernel
theorem dX8_openQuantity_32 : decode cX8_openQuantity 32 = .ok (.iaload, 1) := by decide +kernel
theorem dX8_openQuantity_33 : decode cX8_openQuantity 33 = .ok (.if_icmp .ge 32, 3) := by decide +kernel
theorem dX8_openQuantity_36 : decode cX8_openQuantity 36 = .ok (.iload_n 2, 1) := by decide +kernel
theorem dX8_openQuantity_37 : decode cX8_openQuantity 37 = .ok (.aload_n 0, 1) := by decide +kernel
theorem dX8_openQuantity_38 : decode cX8_openQuantity 38 = .ok (.iload_n 3, 1) := by decide +kernel
theorem dX8_openQuantity_39 : decode cX8_openQuantity 39 = .ok (.iconst 2, 1) := by decide +kernel
theorem dX8_openQuantity_40 : decode cX8_openQuantity 40 = .ok (.invokevirtual 76, 3) := by decide +kernel
theorem dX8_openQuantity_43 : decode cX8_openQuantity 43 = .ok (.iload_n 1, 1) := by decide +kernel
theorem dX8_openQuantity_44 : decode cX8_openQuantity 44 = .ok (.if_icmp .ne 12, 3) := by decide +kernel
theorem dX8_openQuantity_47 : decode cX8_openQuantity 47 = .ok (.aload_n 0, 1) := by decide +kernel
theorem dX8_openQuantity_48 : decode cX8_openQuantity 48 = .ok (.iload_n 3, 1) := by decide +kernel
theorem dX8_openQuantity_49 : decode cX8_openQuantity 49 = .ok (.iconst 3, 1) := by decide +kernel
theorem dX8_openQuantity_50 : decode cX8_openQuantity 50 = .ok (.invokevirtual 76, 3) := by decide +kernel
theorem dX8_openQuantity_53 : decode cX8_openQuantity 53 = .ok (.goto 4, 3) := by decide +kernel
theorem dX8_openQuantity_56 : decode cX8_openQuantity 56 = .ok (.iconst 0, 1) := by decide +kernel
theorem dX8_openQuantity_57 : decode cX8_openQuantity 57 = .ok (.iadd, 1) := by decide +kernel
theorem dX8_openQuantity_58 : decode cX8_openQuantity 58 = .ok (.istore_n 2, 1) := by decide +kernel
theorem dX8_openQuantity_59 : decode cX8_openQuantity 59 = .ok (.iinc 3 1, 3) := by decide +kernel
theorem dX8_openQuantity_62 : decode cX8_openQuantity 62 = .ok (.goto (-36), 3) := by decide +kernel
theorem dX8_openQuantity_65 : decode cX8_openQuantity 65 = .ok (.iload_n 2, 1) := by decide +kernel
theorem dX8_openQuantity_66 : decode cX8_openQuantity 66 = .ok (.ireturn, 1) := by decide +kernel
theorem dX8_contractCount_0 : decode cX8_contractCount 0 = .ok (.aload_n 0, 1) := by decide +kernel
theorem dX8_contractCount_1 : decode cX8_contractCount 1 = .ok (.iconst 0, 1) := by decide +kernel
theorem dX8_contractCount_2 : decode cX8_contractCount 2 = .ok (.putfield 54, 3) := by decide +kernel
theorem dX8_contractCount_5 : decode cX8_contractCount 5 = .ok (.aload_n 0, 1) := by decide +kernel
theorem dX8_contractCount_6 : decode cX8_contractCount 6 = .ok (.getfield 7, 3) := by decide +kernel
theorem dX8_contractCount_9 : decode cX8_contractCount 9 = .ok (.iconst 2, 1) := by decide +kernel
theorem dX8_contractCount_10 : decode cX8_contractCount 10 = .ok (.iaload, 1) := by decide +kernel
theorem dX8_contractCount_11 : decode cX8_contractCount 11 = .ok (.ireturn, 1) := by decide +kernel
theorem dX8_ofContract_0 : decode cX8_ofContract 0 = .ok (.aload_n 0, 1) := by decide +kernel
theorem dX8_ofContract_1 : decode cX8_ofContract 1 = .ok (.aload_n 0, 1) := by decide +kernel
theorem dX8_ofContract_2 : decode cX8_ofContract 2 = .ok (.iload_n 1, 1) := by decide +kernel
theorem dX8_ofContract_3 : decode cX8_ofContract 3 = .ok (.invokevirtual 166, 3) := by decide +kernel
theorem dX8_ofContract_6 : decode cX8_ofContract 6 = .ok (.ifCond .eq 7, 3) := by decide +kernel
theorem dX8_ofContract_9 : decode cX8_ofContract 9 = .ok (.iconst 0, 1) := by decide +kernel
theorem dX8_ofContract_10 : decode cX8_ofContract 10 = .ok (.goto 4, 3) := by decide +kernel
theorem dX8_ofContract_13 : decode cX8_ofContract 13 = .ok (.iconst 1, 1) := by decide +kernel
theorem dX8_ofContract_14 : decode cX8_ofContract 14 = .ok (.invokevirtual 89, 3) := by decide +kernel
theorem dX8_ofContract_17 : decode cX8_ofContract 17 = .ok (.ifCond .eq 7, 3) := by decide +kernel
theorem dX8_ofContract_20 : decode cX8_ofContract 20 = .ok (.iconst 0, 1) := by decide +kernel
theorem dX8_ofContract_21 : decode cX8_ofContract 21 = .ok (.goto 9, 3) := by decide +kernel
theorem dX8_ofContract_24 : decode cX8_ofContract 24 = .ok (.aload_n 0, 1) := by decide +kernel
theorem dX8_ofContract_25 : decode cX8_ofContract 25 = .ok (.iload_n 1, 1) := by decide +kernel
theorem dX8_ofContract_26 : decode cX8_ofContract 26 = .ok (.iload_n 2, 1) := by decide +kernel
theorem dX8_ofContract_27 : decode cX8_ofContract 27 = .ok (.invokevirtual 76, 3) := by decide +kernel
theorem dX8_ofContract_30 : decode cX8_ofContract 30 = .ok (.ireturn, 1) := by decide +kernel
theorem dX8_buyerOf_0 : decode cX8_buyerOf 0 = .ok (.aload_n 0, 1) := by decide +kernel
theorem dX8_buyerOf_1 : decode cX8_buyerOf 1 = .ok (.iload_n 1, 1) := by decide +kernel
theorem dX8_buyerOf_2 : decode cX8_buyerOf 2 = .ok (.iconst 0, 1) := by decide +kernel
theorem dX8_buyerOf_3 : decode cX8_buyerOf 3 = .ok (.invokevirtual 169, 3) := by decide +kernel
theorem dX8_buyerOf_6 : decode cX8_buyerOf 6 = .ok (.ireturn, 1) := by decide +kernel
theorem dX8_sellerOf_0 : decode cX8_sellerOf 0 = .ok (.aload_n 0, 1) := by decide +kernel
theorem dX8_sellerOf_1 : decode cX8_sellerOf 1 = .ok (.iload_n 1, 1) := by decide +kernel
theorem dX8_sellerOf_2 : decode cX8_sellerOf 2 = .ok (.iconst 1, 1) := by decide +kernel
theorem dX8_sellerOf_3 : decode cX8_sellerOf 3 = .ok (.invokevirtual 169, 3) := by decide +kernel
theorem dX8_sellerOf_6 : decode cX8_sellerOf 6 = .ok (.ireturn, 1) := by decide +kernel
theorem dX8_horizonOf_0 : decode cX8_horizonOf 0 = .ok (.aload_n 0, 1) := by decide +kernel
theorem dX8_horizonOf_1 : decode cX8_horizonOf 1 = .ok (.iload_n 1, 1) := by decide +kernel
theorem dX8_horizonOf_2 : decode cX8_horizonOf 2 = .ok (.iconst 2, 1) := by decide +kernel
theorem dX8_horizonOf_3 : decode cX8_horizonOf 3 = .ok (.invokevirtual 169, 3) := by decide +kernel
theorem dX8_horizonOf_6 : decode cX8_horizonOf 6 = .ok (.ireturn, 1) := by decide +kernel
theorem dX8_quantityOf_0 : decode cX8_quantityOf 0 = .ok (.aload_n 0, 1) := by decide +kernel
theorem dX8_quantityOf_1 : decode cX8_quantityOf 1 = .ok (.iload_n 1, 1) := by decide +kernel
theorem dX8_quantityOf_2 : decode cX8_quantityOf 2 = .ok (.iconst 3, 1) := by decide +kernel
theorem dX8_quantityOf_3 : decode cX8_quantityOf 3 = .ok (.invokevirtual 169, 3) := by decide +kernel
theorem dX8_quantityOf_6 : decode cX8_quantityOf 6 = .ok (.ireturn, 1) := by decide +kernel
theorem dX8_daysLeft_0 : decode cX8_daysLeft 0 = .ok (.aload_n 0, 1) := by decide +kernel
theorem dX8_daysLeft_1 : decode cX8_daysLeft 1 = .ok (.aload_n 0, 1) := by decide +kernel
theorem dX8_daysLeft_2 : decode cX8_daysLeft 2 = .ok (.iload_n 1, 1) := by decide +kernel
theorem dX8_daysLeft_3 : decode cX8_daysLeft 3 = .ok (.invokevirtual 166, 3) := by decide +kernel
theorem dX8_daysLeft_6 : decode cX8_daysLeft 6 = .ok (.ifCond .eq 7, 3) := by decide +kernel
theorem dX8_daysLeft_9 : decode cX8_daysLeft 9 = .ok (.iconst 0, 1) := by decide +kernel
theorem dX8_daysLeft_10 : decode cX8_daysLeft 10 = .ok (.goto 4, 3) := by decide +kernel
theorem dX8_daysLeft_13 : decode cX8_daysLeft 13 = .ok (.iconst 1, 1) := by decide +kernel
theorem dX8_daysLeft_14 : decode cX8_daysLeft 14 = .ok (.invokevirtual 89, 3) := by decide +kernel
theorem dX8_daysLeft_17 : decode cX8_daysLeft 17 = .ok (.ifCond .eq 7, 3) := by decide +kernel
theorem dX8_daysLeft_20 : decode cX8_daysLeft 20 = .ok (.iconst 0, 1) := by decide +kernel
theorem dX8_daysLeft_21 : decode cX8_daysLeft 21 = .ok (.goto 16, 3) := by decide +kernel
theorem dX8_daysLeft_24 : decode cX8_daysLeft 24 = .ok (.aload_n 0, 1) := by decide +kernel
theorem dX8_daysLeft_25 : decode cX8_daysLeft 25 = .ok (.iload_n 1, 1) := by decide +kernel
theorem dX8_daysLeft_26 : decode cX8_daysLeft 26 = .ok (.iconst 4, 1) := by decide +kernel
theorem dX8_daysLeft_27 : decode cX8_daysLeft 27 = .ok (.invokevirtual 76, 3) := by decide +kernel
theorem dX8_daysLeft_30 : decode cX8_daysLeft 30 = .ok (.aload_n 0, 1) := by decide +kernel
theorem dX8_daysLeft_31 : decode cX8_daysLeft 31 = .ok (.getfield 7, 3) := by decide +kernel
theorem dX8_daysLeft_34 : decode cX8_daysLeft 34 = .ok (.iconst 3, 1) := by decide +kernel
theorem dX8_daysLeft_35 : decode cX8_daysLeft 35 = .ok (.iaload, 1) := by decide +kernel
theorem dX8_daysLeft_36 : decode cX8_daysLeft 36 = .ok (.isub, 1) := by decide +kernel
theorem dX8_daysLeft_37 : decode cX8_daysLeft 37 = .ok (.ireturn, 1) := by decide +kernel
theorem dX8_marginOf_0 : decode cX8_marginOf 0 = .ok (.aload_n 0, 1) := by decide +kernel
theorem dX8_marginOf_1 : decode cX8_marginOf 1 = .ok (.aload_n 0, 1) := by decide +kernel
theorem dX8_marginOf_2 : decode cX8_marginOf 2 = .ok (.iload_n 1, 1) := by decide +kernel
theorem dX8_marginOf_3 : decode cX8_marginOf 3 = .ok (.invokevirtual 107, 3) := by decide +kernel
theorem dX8_marginOf_6 : decode cX8_marginOf 6 = .ok (.ifCond .eq 7, 3) := by decide +kernel
theorem dX8_marginOf_9 : decode cX8_marginOf 9 = .ok (.iconst 0, 1) := by decide +kernel
theorem dX8_marginOf_10 : decode cX8_marginOf 10 = .ok (.goto 4, 3) := by decide +kernel
theorem dX8_marginOf_13 : decode cX8_marginOf 13 = .ok (.iconst 1, 1) := by decide +kernel
theorem dX8_marginOf_14 : decode cX8_marginOf 14 = .ok (.invokevirtual 89, 3) := by decide +kernel
theorem dX8_marginOf_17 : decode cX8_marginOf 17 = .ok (.ifCond .eq 7, 3) := by decide +kernel
theorem dX8_marginOf_20 : decode cX8_marginOf 20 = .ok (.iconst 0, 1) := by decide +kernel
theorem dX8_marginOf_21 : decode cX8_marginOf 21 = .ok (.goto 8, 3) := by decide +kernel
theorem dX8_marginOf_24 : decode cX8_marginOf 24 = .ok (.aload_n 0, 1) := by decide +kernel
theorem dX8_marginOf_25 : decode cX8_marginOf 25 = .ok (.iload_n 1, 1) := by decide +kernel
theorem dX8_marginOf_26 : decode cX8_marginOf 26 = .ok (.invokevirtual 104, 3) := by decide +kernel
theorem dX8_marginOf_29 : decode cX8_marginOf 29 = .ok (.ireturn, 1) := by decide +kernel
theorem dX8_marginByPositions_0 : decode cX8_marginByPositions 0 = .ok (.aload_n 0, 1) := by decide +kernel
theorem dX8_marginByPositions_1 : decode cX8_marginByPositions 1 = .ok (.aload_n 0, 1) := by decide +kernel
theorem dX8_marginByPositions_2 : decode cX8_marginByPositions 2 = .ok (.iload_n 1, 1) := by decide +kernel
theorem dX8_marginByPositions_3 : decode cX8_marginByPositions 3 = .ok (.invokevirtual 107, 3) := by decide +kernel
theorem dX8_marginByPositions_6 : decode cX8_marginByPositions 6 = .ok (.ifCond .eq 7, 3) := by decide +kernel
theorem dX8_marginByPositions_9 : decode cX8_marginByPositions 9 = .ok (.iconst 0, 1) := by decide +kernel
theorem dX8_marginByPositions_10 : decode cX8_marginByPositions 10 = .ok (.goto 4, 3) := by decide +kernel
theorem dX8_marginByPositions_13 : decode cX8_marginByPositions 13 = .ok (.iconst 1, 1) := by decide +kernel
theorem dX8_marginByPositions_14 : decode cX8_marginByPositions 14 = .ok (.invokevirtual 89, 3) := by decide +kernel
theorem dX8_marginByPositions_17 : decode cX8_marginByPositions 17 = .ok (.ifCond .eq 7, 3) := by decide +kernel
theorem dX8_marginByPositions_20 : decode cX8_marginByPositions 20 = .ok (.iconst 0, 1) := by decide +kernel
theorem dX8_marginByPositions_21 : decode cX8_marginByPositions 21 = .ok (.goto 8, 3) := by decide +kernel
theorem dX8_marginByPositions_24 : decode cX8_marginByPositions 24 = .ok (.aload_n 0, 1) := by decide +kernel
theorem dX8_marginByPositions_25 : decode cX8_marginByPositions 25 = .ok (.iload_n 1, 1) := by decide +kernel
theorem dX8_marginByPositions_26 : decode cX8_marginByPositions 26 = .ok (.invokevirtual 104, 3) := by decide +kernel
theorem dX8_marginByPositions_29 : decode cX8_marginByPositions 29 = .ok (.ireturn, 1) := by decide +kernel
theorem dX8_variationOf_0 : decode cX8_variationOf 0 = .ok (.aload_n 0, 1) := by decide +kernel
theorem dX8_variationOf_1 : decode cX8_variationOf 1 = .ok (.aload_n 0, 1) := by decide +kernel
theorem dX8_variationOf_2 : decode cX8_variationOf 2 = .ok (.iload_n 1, 1) := by decide +kernel
theorem dX8_variationOf_3 : decode cX8_variationOf 3 = .ok (.invokevirtual 107, 3) := by decide +kernel
theorem dX8_variationOf_6 : decode cX8_variationOf 6 = .ok (.ifCond .eq 7, 3) := by decide +kernel
theorem dX8_variationOf_9 : decode cX8_variationOf 9 = .ok (.iconst 0, 1) := by decide +kernel
theorem dX8_variationOf_10 : decode cX8_variationOf 10 = .ok (.goto 4, 3) := by decide +kernel
theorem dX8_variationOf_13 : decode cX8_variationOf 13 = .ok (.iconst 1, 1) := by decide +kernel
theorem dX8_variationOf_14 : decode cX8_variationOf 14 = .ok (.invokevirtual 89, 3) := by decide +kernel
theorem dX8_variationOf_17 : decode cX8_variationOf 17 = .ok (.ifCond .eq 7, 3) := by decide +kernel
theorem dX8_variationOf_20 : decode cX8_variationOf 20 = .ok (.iconst 0, 1) := by decide +kernel
theorem dX8_variationOf_21 : decode cX8_variationOf 21 = .ok (.goto 8, 3) := by decide +kernel
theorem dX8_variationOf_24 : decode cX8_variationOf 24 = .ok (.aload_n 0, 1) := by decide +kernel
theorem dX8_variationOf_25 : decode cX8_variationOf 25 = .ok (.iload_n 1, 1) := by decide +kernel
theorem dX8_variationOf_26 : decode cX8_variationOf 26 = .ok (.invokevirtual 151, 3) := by decide +kernel
theorem dX8_variationOf_29 : decode cX8_variationOf 29 = .ok (.ireturn, 1) := by decide +kernel
theorem dX8_pays_0 : decode cX8_pays 0 = .ok (.iconst 0, 1) := by decide +kernel
theorem dX8_pays_1 : decode cX8_pays 1 = .ok (.istore_n 1, 1) := by decide +kernel
theorem dX8_pays_2 : decode cX8_pays 2 = .ok (.iconst 0, 1) := by decide +kernel
theorem dX8_pays_3 : decode cX8_pays 3 = .ok (.istore_n 2, 1) := by decide +kernel
theorem dX8_pays_4 : decode cX8_pays 4 = .ok (.iconst 0, 1) := by decide +kernel
theorem dX8_pays_5 : decode cX8_pays 5 = .ok (.istore_n 3, 1) := by decide +kernel
theorem dX8_pays_6 : decode cX8_pays 6 = .ok (.iload_n 3, 1) := by decide +kernel
theorem dX8_pays_7 : decode cX8_pays 7 = .ok (.aload_n 0, 1) := by decide +kernel
theorem dX8_pays_8 : decode cX8_pays 8 = .ok (.getfield 7, 3) := by decide +kernel
theorem dX8_pays_11 : decode cX8_pays 11 = .ok (.iconst 1, 1) := by decide +kernel
theorem dX8_pays_12 : decode cX8_pays 12 = .ok (.iaload, 1) := by decide +kernel
theorem dX8_pays_13 : decode cX8_pays 13 = .ok (.if_icmp .ge 29, 3) := by decide +kernel
theorem dX8_pays_16 : decode cX8_pays 16 = .ok (.aload_n 0, 1) := by decide +kernel
theorem dX8_pays_17 : decode cX8_pays 17 = .ok (.iload_n 3, 1) := by decide +kernel
theorem dX8_pays_18 : decode cX8_pays 18 = .ok (.invokevirtual 151, 3) := by decide +kernel
theorem dX8_pays_21 : decode cX8_pays 21 = .ok (.ifCond .ne 6, 3) := by decide +kernel
theorem dX8_pays_24 : decode cX8_pays 24 = .ok (.goto 12, 3) := by decide +kernel
theorem dX8_pays_27 : decode cX8_pays 27 = .ok (.iload_n 1, 1) := by decide +kernel
theorem dX8_pays_28 : decode cX8_pays 28 = .ok (.iconst 1, 1) := by decide +kernel
theorem dX8_pays_29 : decode cX8_pays 29 = .ok (.iload_n 3, 1) := by decide +kernel
theorem dX8_pays_30 : decode cX8_pays 30 = .ok (.ishl, 1) := by decide +kernel
theorem dX8_pays_31 : decode cX8_pays 31 = .ok (.ior, 1) := by decide +kernel
theorem dX8_pays_32 : decode cX8_pays 32 = .ok (.istore_n 1, 1) := by decide +kernel
theorem dX8_pays_33 : decode cX8_pays 33 = .ok (.iinc 2 1, 3) := by decide +kernel
theorem dX8_pays_36 : decode cX8_pays 36 = .ok (.iinc 3 1, 3) := by decide +kernel
theorem dX8_pays_39 : decode cX8_pays 39 = .ok (.goto (-33), 3) := by decide +kernel
theorem dX8_pays_42 : decode cX8_pays 42 = .ok (.aload_n 0, 1) := by decide +kernel
theorem dX8_pays_43 : decode cX8_pays 43 = .ok (.getfield 48, 3) := by decide +kernel
theorem dX8_pays_46 : decode cX8_pays 46 = .ok (.iconst 0, 1) := by decide +kernel
theorem dX8_pays_47 : decode cX8_pays 47 = .ok (.iconst 0, 1) := by decide +kernel
theorem dX8_pays_48 : decode cX8_pays 48 = .ok (.iastore, 1) := by decide +kernel
theorem dX8_pays_49 : decode cX8_pays 49 = .ok (.iconst 1, 1) := by decide +kernel
theorem dX8_pays_50 : decode cX8_pays 50 = .ok (.istore_n 3, 1) := by decide +kernel
theorem dX8_pays_51 : decode cX8_pays 51 = .ok (.iload_n 3, 1) := by decide +kernel
theorem dX8_pays_52 : decode cX8_pays 52 = .ok (.bipush 64, 2) := by decide +kernel
theorem dX8_pays_54 : decode cX8_pays 54 = .ok (.if_icmp .ge 86, 3) := by decide +kernel
theorem dX8_pays_57 : decode cX8_pays 57 = .ok (.aload_n 0, 1) := by decide +kernel
theorem dX8_pays_58 : decode cX8_pays 58 = .ok (.getfield 45, 3) := by decide +kernel
theorem dX8_pays_61 : decode cX8_pays 61 = .ok (.iload_n 3, 1) := by decide +kernel
theorem dX8_pays_62 : decode cX8_pays 62 = .ok (.iconst 0, 1) := by decide +kernel
theorem dX8_pays_63 : decode cX8_pays 63 = .ok (.iastore, 1) := by decide +kernel
theorem dX8_pays_64 : decode cX8_pays 64 = .ok (.iconst 0, 1) := by decide +kernel
theorem dX8_pays_65 : decode cX8_pays 65 = .ok (.istore 4, 2) := by decide +kernel
theorem dX8_pays_67 : decode cX8_pays 67 = .ok (.iload 4, 2) := by decide +kernel
theorem dX8_pays_69 : decode cX8_pays 69 = .ok (.aload_n 0, 1) := by decide +kernel
theorem dX8_pays_70 : decode cX8_pays 70 = .ok (.getfield 7, 3) := by decide +kernel
theorem dX8_pays_73 : decode cX8_pays 73 = .ok (.iconst 1, 1) := by decide +kernel
theorem dX8_pays_74 : decode cX8_pays 74 = .ok (.iaload, 1) := by decide +kernel
theorem dX8_pays_75 : decode cX8_pays 75 = .ok (.if_icmp .ge 31, 3) := by decide +kernel
theorem dX8_pays_78 : decode cX8_pays 78 = .ok (.aload_n 0, 1) := by decide +kernel
theorem dX8_pays_79 : decode cX8_pays 79 = .ok (.getfield 45, 3) := by decide +kernel
theorem dX8_pays_82 : decode cX8_pays 82 = .ok (.iload_n 3, 1) := by decide +kernel
theorem dX8_pays_83 : decode cX8_pays 83 = .ok (.dup2, 1) := by decide +kernel
theorem dX8_pays_84 : decode cX8_pays 84 = .ok (.iaload, 1) := by decide +kernel
theorem dX8_pays_85 : decode cX8_pays 85 = .ok (.iload_n 3, 1) := by decide +kernel
theorem dX8_pays_86 : decode cX8_pays 86 = .ok (.iload 4, 2) := by decide +kernel
theorem dX8_pays_88 : decode cX8_pays 88 = .ok (.ishr, 1) := by decide +kernel
theorem dX8_pays_89 : decode cX8_pays 89 = .ok (.iconst 1, 1) := by decide +kernel
theorem dX8_pays_90 : decode cX8_pays 90 = .ok (.iand, 1) := by decide +kernel
theorem dX8_pays_91 : decode cX8_pays 91 = .ok (.aload_n 0, 1) := by decide +kernel
theorem dX8_pays_92 : decode cX8_pays 92 = .ok (.iload 4, 2) := by decide +kernel
theorem dX8_pays_94 : decode cX8_pays 94 = .ok (.invokevirtual 151, 3) := by decide +kernel
theorem dX8_pays_97 : decode cX8_pays 97 = .ok (.imul, 1) := by decide +kernel
theorem dX8_pays_98 : decode cX8_pays 98 = .ok (.iadd, 1) := by decide +kernel
theorem dX8_pays_99 : decode cX8_pays 99 = .ok (.iastore, 1) := by decide +kernel
theorem dX8_pays_100 : decode cX8_pays 100 = .ok (.iinc 4 1, 3) := by decide +kernel
theorem dX8_pays_103 : decode cX8_pays 103 = .ok (.goto (-36), 3) := by decide +kernel
theorem dX8_pays_106 : decode cX8_pays 106 = .ok (.aload_n 0, 1) := by decide +kernel
theorem dX8_pays_107 : decode cX8_pays 107 = .ok (.getfield 48, 3) := by decide +kernel
theorem dX8_pays_110 : decode cX8_pays 110 = .ok (.iload_n 3, 1) := by decide +kernel
theorem dX8_pays_111 : decode cX8_pays 111 = .ok (.iload_n 3, 1) := by decide +kernel
theorem dX8_pays_112 : decode cX8_pays 112 = .ok (.iload_n 1, 1) := by decide +kernel
theorem dX8_pays_113 : decode cX8_pays 113 = .ok (.iconst (-1), 1) := by decide +kernel
theorem dX8_pays_114 : decode cX8_pays 114 = .ok (.ixor, 1) := by decide +kernel
theorem dX8_pays_115 : decode cX8_pays 115 = .ok (.iand, 1) := by decide +kernel
theorem dX8_pays_116 : decode cX8_pays 116 = .ok (.ifCond .ne 16, 3) := by decide +kernel
theorem dX8_pays_119 : decode cX8_pays 119 = .ok (.aload_n 0, 1) := by decide +kernel
theorem dX8_pays_120 : decode cX8_pays 120 = .ok (.getfield 45, 3) := by decide +kernel
theorem dX8_pays_123 : decode cX8_pays 123 = .ok (.iload_n 3, 1) := by decide +kernel
theorem dX8_pays_124 : decode cX8_pays 124 = .ok (.iaload, 1) := by decide +kernel
theorem dX8_pays_125 : decode cX8_pays 125 = .ok (.ifCond .ne 7, 3) := by decide +kernel
theorem dX8_pays_128 : decode cX8_pays 128 = .ok (.iconst 1, 1) := by decide +kernel
theorem dX8_pays_129 : decode cX8_pays 129 = .ok (.goto 4, 3) := by decide +kernel
theorem dX8_pays_132 : decode cX8_pays 132 = .ok (.iconst (-1), 1) := by decide +kernel
theorem dX8_pays_133 : decode cX8_pays 133 = .ok (.iastore, 1) := by decide +kernel
theorem dX8_pays_134 : decode cX8_pays 134 = .ok (.iinc 3 1, 3) := by decide +kernel
theorem dX8_pays_137 : decode cX8_pays 137 = .ok (.goto (-86), 3) := by decide +kernel
theorem dX8_pays_140 : decode cX8_pays 140 = .ok (.iconst 1, 1) := by decide +kernel
theorem dX8_pays_141 : decode cX8_pays 141 = .ok (.istore_n 3, 1) := by decide +kernel
theorem dX8_pays_142 : decode cX8_pays 142 = .ok (.iload_n 3, 1) := by decide +kernel
theorem dX8_pays_143 : decode cX8_pays 143 = .ok (.bipush 64, 2) := by decide +kernel
theorem dX8_pays_145 : decode cX8_pays 145 = .ok (.if_icmp .ge 115, 3) := by decide +kernel
theorem dX8_pays_148 : decode cX8_pays 148 = .ok (.aload_n 0, 1) := by decide +kernel
theorem dX8_pays_149 : decode cX8_pays 149 = .ok (.getfield 48, 3) := by decide +kernel
theorem dX8_pays_152 : decode cX8_pays 152 = .ok (.iload_n 3, 1) := by decide +kernel
theorem dX8_pays_153 : decode cX8_pays 153 = .ok (.iaload, 1) := by decide +kernel
theorem dX8_pays_154 : decode cX8_pays 154 = .ok (.ifCond .ge 6, 3) := by decide +kernel
theorem dX8_pays_157 : decode cX8_pays 157 = .ok (.goto 97, 3) := by decide +kernel
theorem dX8_pays_160 : decode cX8_pays 160 = .ok (.iload_n 3, 1) := by decide +kernel
theorem dX8_pays_161 : decode cX8_pays 161 = .ok (.iload_n 3, 1) := by decide +kernel
theorem dX8_pays_162 : decode cX8_pays 162 = .ok (.iconst 1, 1) := by decide +kernel
theorem dX8_pays_163 : decode cX8_pays 163 = .ok (.isub, 1) := by decide +kernel
theorem dX8_pays_164 : decode cX8_pays 164 = .ok (.iand, 1) := by decide +kernel
theorem dX8_pays_165 : decode cX8_pays 165 = .ok (.istore 4, 2) := by decide +kernel
theorem dX8_pays_167 : decode cX8_pays 167 = .ok (.iload 4, 2) := by decide +kernel
theorem dX8_pays_169 : decode cX8_pays 169 = .ok (.ifCond .le 85, 3) := by decide +kernel
theorem dX8_pays_172 : decode cX8_pays 172 = .ok (.aload_n 0, 1) := by decide +kernel
theorem dX8_pays_173 : decode cX8_pays 173 = .ok (.getfield 48, 3) := by decide +kernel
theorem dX8_pays_176 : decode cX8_pays 176 = .ok (.iload 4, 2) := by decide +kernel
theorem dX8_pays_178 : decode cX8_pays 178 = .ok (.iaload, 1) := by decide +kernel
theorem dX8_pays_179 : decode cX8_pays 179 = .ok (.ifCond .le 64, 3) := by decide +kernel
theorem dX8_pays_182 : decode cX8_pays 182 = .ok (.aload_n 0, 1) := by decide +kernel
theorem dX8_pays_183 : decode cX8_pays 183 = .ok (.getfield 48, 3) := by decide +kernel
theorem dX8_pays_186 : decode cX8_pays 186 = .ok (.iload_n 3, 1) := by decide +kernel
theorem dX8_pays_187 : decode cX8_pays 187 = .ok (.iload 4, 2) := by decide +kernel
theorem dX8_pays_189 : decode cX8_pays 189 = .ok (.ixor, 1) := by decide +kernel
theorem dX8_pays_190 : decode cX8_pays 190 = .ok (.iaload, 1) := by decide +kernel
theorem dX8_pays_191 : decode cX8_pays 191 = .ok (.ifCond .le 52, 3) := by decide +kernel
theorem dX8_pays_194 : decode cX8_pays 194 = .ok (.aload_n 0, 1) := by decide +kernel
theorem dX8_pays_195 : decode cX8_pays 195 = .ok (.getfield 48, 3) := by decide +kernel
theorem dX8_pays_198 : decode cX8_pays 198 = .ok (.iload 4, 2) := by decide +kernel
theorem dX8_pays_200 : decode cX8_pays 200 = .ok (.iaload, 1) := by decide +kernel
theorem dX8_pays_201 : decode cX8_pays 201 = .ok (.aload_n 0, 1) := by decide +kernel
theorem dX8_pays_202 : decode cX8_pays 202 = .ok (.getfield 48, 3) := by decide +kernel
theorem dX8_pays_205 : decode cX8_pays 205 = .ok (.iload_n 3, 1) := by decide +kernel
theorem dX8_pays_206 : decode cX8_pays 206 = .ok (.iload 4, 2) := by decide +kernel
theorem dX8_pays_208 : decode cX8_pays 208 = .ok (.ixor, 1) := by decide +kernel
theorem dX8_pays_209 : decode cX8_pays 209 = .ok (.iaload, 1) := by decide +kernel
theorem dX8_pays_210 : decode cX8_pays 210 = .ok (.iadd, 1) := by decide +kernel
theorem dX8_pays_211 : decode cX8_pays 211 = .ok (.aload_n 0, 1) := by decide +kernel
theorem dX8_pays_212 : decode cX8_pays 212 = .ok (.getfield 48, 3) := by decide +kernel
theorem dX8_pays_215 : decode cX8_pays 215 = .ok (.iload_n 3, 1) := by decide +kernel
theorem dX8_pays_216 : decode cX8_pays 216 = .ok (.iaload, 1) := by decide +kernel
theorem dX8_pays_217 : decode cX8_pays 217 = .ok (.if_icmp .le 26, 3) := by decide +kernel
theorem dX8_pays_220 : decode cX8_pays 220 = .ok (.aload_n 0, 1) := by decide +kernel
theorem dX8_pays_221 : decode cX8_pays 221 = .ok (.getfield 48, 3) := by decide +kernel
theorem dX8_pays_224 : decode cX8_pays 224 = .ok (.iload_n 3, 1) := by decide +kernel
theorem dX8_pays_225 : decode cX8_pays 225 = .ok (.aload_n 0, 1) := by decide +kernel
theorem dX8_pays_226 : decode cX8_pays 226 = .ok (.getfield 48, 3) := by decide +kernel
theorem dX8_pays_229 : decode cX8_pays 229 = .ok (.iload 4, 2) := by decide +kernel
theorem dX8_pays_231 : decode cX8_pays 231 = .ok (.iaload, 1) := by decide +kernel
theorem dX8_pays_232 : decode cX8_pays 232 = .ok (.aload_n 0, 1) := by decide +kernel
theorem dX8_pays_233 : decode cX8_pays 233 = .ok (.getfield 48, 3) := by decide +kernel
theorem dX8_pays_236 : decode cX8_pays 236 = .ok (.iload_n 3, 1) := by decide +kernel
theorem dX8_pays_237 : decode cX8_pays 237 = .ok (.iload 4, 2) := by decide +kernel
theorem dX8_pays_239 : decode cX8_pays 239 = .ok (.ixor, 1) := by decide +kernel
theorem dX8_pays_240 : decode cX8_pays 240 = .ok (.iaload, 1) := by decide +kernel
theorem dX8_pays_241 : decode cX8_pays 241 = .ok (.iadd, 1) := by decide +kernel
theorem dX8_pays_242 : decode cX8_pays 242 = .ok (.iastore, 1) := by decide +kernel
theorem dX8_pays_243 : decode cX8_pays 243 = .ok (.iload 4, 2) := by decide +kernel
theorem dX8_pays_245 : decode cX8_pays 245 = .ok (.iconst 1, 1) := by decide +kernel
theorem dX8_pays_246 : decode cX8_pays 246 = .ok (.isub, 1) := by decide +kernel
theorem dX8_pays_247 : decode cX8_pays 247 = .ok (.iload_n 3, 1) := by decide +kernel
theorem dX8_pays_248 : decode cX8_pays 248 = .ok (.iand, 1) := by decide +kernel
theorem dX8_pays_249 : decode cX8_pays 249 = .ok (.istore 4, 2) := by decide +kernel
theorem dX8_pays_251 : decode cX8_pays 251 = .ok (.goto (-84), 3) := by decide +kernel
theorem dX8_pays_254 : decode cX8_pays 254 = .ok (.iinc 3 1, 3) := by decide +kernel
theorem dX8_pays_257 : decode cX8_pays 257 = .ok (.goto (-115), 3) := by decide +kernel
theorem dX8_pays_260 : decode cX8_pays 260 = .ok (.iload_n 2, 1) := by decide +kernel
theorem dX8_pays_261 : decode cX8_pays 261 = .ok (.aload_n 0, 1) := by decide +kernel
theorem dX8_pays_262 : decode cX8_pays 262 = .ok (.getfield 48, 3) := by decide +kernel
theorem dX8_pays_265 : decode cX8_pays 265 = .ok (.iload_n 1, 1) := by decide +kernel
theorem dX8_pays_266 : decode cX8_pays 266 = .ok (.iaload, 1) := by decide +kernel
theorem dX8_pays_267 : decode cX8_pays 267 = .ok (.isub, 1) := by decide +kernel
theorem dX8_pays_268 : decode cX8_pays 268 = .ok (.ireturn, 1) := by decide +kernel
theorem dX8_payments_0 : decode cX8_payments 0 = .ok (.aload_n 0, 1) := by decide +kernel
theorem dX8_payments_1 : decode cX8_payments 1 = .ok (.iconst 0, 1) := by decide +kernel
theorem dX8_payments_2 : decode cX8_payments 2 = .ok (.putfield 54, 3) := by decide +kernel
theorem dX8_payments_5 : decode cX8_payments 5 = .ok (.aload_n 0, 1) := by decide +kernel
theorem dX8_payments_6 : decode cX8_payments 6 = .ok (.invokevirtual 172, 3) := by decide +kernel
theorem dX8_payments_9 : decode cX8_payments 9 = .ok (.ireturn, 1) := by decide +kernel
theorem dX8_paymentsByGroups_0 : decode cX8_paymentsByGroups 0 = .ok (.aload_n 0, 1) := by decide +kernel
theorem dX8_paymentsByGroups_1 : decode cX8_paymentsByGroups 1 = .ok (.iconst 0, 1) := by decide +kernel
theorem dX8_paymentsByGroups_2 : decode cX8_paymentsByGroups 2 = .ok (.putfield 54, 3) := by decide +kernel
theorem dX8_paymentsByGroups_5 : decode cX8_paymentsByGroups 5 = .ok (.aload_n 0, 1) := by decide +kernel
theorem dX8_paymentsByGroups_6 : decode cX8_paymentsByGroups 6 = .ok (.invokevirtual 172, 3) := by decide +kernel
theorem dX8_paymentsByGroups_9 : decode cX8_paymentsByGroups 9 = .ok (.ireturn, 1) := by decide +kernel
theorem dX8_takes_0 : decode cX8_takes 0 = .ok (.aload_n 0, 1) := by decide +kernel
theorem dX8_takes_1 : decode cX8_takes 1 = .ok (.aload_n 0, 1) := by decide +kernel
theorem dX8_takes_2 : decode cX8_takes 2 = .ok (.iload_n 1, 1) := by decide +kernel
theorem dX8_takes_3 : decode cX8_takes 3 = .ok (.invokevirtual 107, 3) := by decide +kernel
theorem dX8_takes_6 : decode cX8_takes 6 = .ok (.ifCond .ne 7, 3) := by decide +kernel
theorem dX8_takes_9 : decode cX8_takes 9 = .ok (.iconst 1, 1) := by decide +kernel
theorem dX8_takes_10 : decode cX8_takes 10 = .ok (.goto 18, 3) := by decide +kernel
theorem dX8_takes_13 : decode cX8_takes 13 = .ok (.aload_n 0, 1) := by decide +kernel
theorem dX8_takes_14 : decode cX8_takes 14 = .ok (.iload_n 1, 1) := by decide +kernel
theorem dX8_takes_15 : decode cX8_takes 15 = .ok (.iconst 2, 1) := by decide +kernel
theorem dX8_takes_16 : decode cX8_takes 16 = .ok (.invokevirtual 72, 3) := by decide +kernel
theorem dX8_takes_19 : decode cX8_takes 19 = .ok (.iconst 1, 1) := by decide +kernel
theorem dX8_takes_20 : decode cX8_takes 20 = .ok (.if_icmp .ne 7, 3) := by decide +kernel
theorem dX8_takes_23 : decode cX8_takes 23 = .ok (.iconst 2, 1) := by decide +kernel
theorem dX8_takes_24 : decode cX8_takes 24 = .ok (.goto 4, 3) := by decide +kernel
theorem dX8_takes_27 : decode cX8_takes 27 = .ok (.iconst 0, 1) := by decide +kernel
theorem dX8_takes_28 : decode cX8_takes 28 = .ok (.invokevirtual 89, 3) := by decide +kernel
theorem dX8_takes_31 : decode cX8_takes 31 = .ok (.ifCond .eq 5, 3) := by decide +kernel
theorem dX8_takes_34 : decode cX8_takes 34 = .ok (.iconst 0, 1) := by decide +kernel
theorem dX8_takes_35 : decode cX8_takes 35 = .ok (.ireturn, 1) := by decide +kernel
theorem dX8_takes_36 : decode cX8_takes 36 = .ok (.aload_n 0, 1) := by decide +kernel
theorem dX8_takes_37 : decode cX8_takes 37 = .ok (.iload_n 1, 1) := by decide +kernel
theorem dX8_takes_38 : decode cX8_takes 38 = .ok (.invokevirtual 144, 3) := by decide +kernel
theorem dX8_takes_41 : decode cX8_takes 41 = .ok (.istore_n 2, 1) := by decide +kernel
theorem dX8_takes_42 : decode cX8_takes 42 = .ok (.aload_n 0, 1) := by decide +kernel
theorem dX8_takes_43 : decode cX8_takes 43 = .ok (.iload_n 2, 1) := by decide +kernel
theorem dX8_takes_44 : decode cX8_takes 44 = .ok (.ifCond .ge 7, 3) := by decide +kernel
theorem dX8_takes_47 : decode cX8_takes 47 = .ok (.iconst 3, 1) := by decide +kernel
theorem dX8_takes_48 : decode cX8_takes 48 = .ok (.goto 4, 3) := by decide +kernel
theorem dX8_takes_51 : decode cX8_takes 51 = .ok (.iconst 0, 1) := by decide +kernel
theorem dX8_takes_52 : decode cX8_takes 52 = .ok (.invokevirtual 89, 3) := by decide +kernel
theorem dX8_takes_55 : decode cX8_takes 55 = .ok (.ifCond .eq 7, 3) := by decide +kernel
theorem dX8_takes_58 : decode cX8_takes 58 = .ok (.iconst 0, 1) := by decide +kernel
theorem dX8_takes_59 : decode cX8_takes 59 = .ok (.goto 4, 3) := by decide +kernel
theorem dX8_takes_62 : decode cX8_takes 62 = .ok (.iload_n 2, 1) := by decide +kernel
theorem dX8_takes_63 : decode cX8_takes 63 = .ok (.ireturn, 1) := by decide +kernel
theorem dX8_leastMargins_0 : decode cX8_leastMargins 0 = .ok (.aload_n 0, 1) := by decide +kernel
theorem dX8_leastMargins_1 : decode cX8_leastMargins 1 = .ok (.iload_n 1, 1) := by decide +kernel
theorem dX8_leastMargins_2 : decode cX8_leastMargins 2 = .ok (.invokevirtual 176, 3) := by decide +kernel
theorem dX8_leastMargins_5 : decode cX8_leastMargins 5 = .ok (.ireturn, 1) := by decide +kernel
theorem dX8_leastMarginsBySets_0 : decode cX8_leastMarginsBySets 0 = .ok (.aload_n 0, 1) := by decide +kernel
theorem dX8_leastMarginsBySets_1 : decode cX8_leastMarginsBySets 1 = .ok (.iload_n 1, 1) := by decide +kernel
theorem dX8_leastMarginsBySets_2 : decode cX8_leastMarginsBySets 2 = .ok (.invokevirtual 176, 3) := by decide +kernel
theorem dX8_leastMarginsBySets_5 : decode cX8_leastMarginsBySets 5 = .ok (.ireturn, 1) := by decide +kernel
theorem dX8_takerOf_0 : decode cX8_takerOf 0 = .ok (.aload_n 0, 1) := by decide +kernel
theorem dX8_takerOf_1 : decode cX8_takerOf 1 = .ok (.aload_n 0, 1) := by decide +kernel
theorem dX8_takerOf_2 : decode cX8_takerOf 2 = .ok (.iload_n 1, 1) := by decide +kernel
theorem dX8_takerOf_3 : decode cX8_takerOf 3 = .ok (.invokevirtual 107, 3) := by decide +kernel
theorem dX8_takerOf_6 : decode cX8_takerOf 6 = .ok (.ifCond .eq 11, 3) := by decide +kernel
theorem dX8_takerOf_9 : decode cX8_takerOf 9 = .ok (.aload_n 0, 1) := by decide +kernel
theorem dX8_takerOf_10 : decode cX8_takerOf 10 = .ok (.iload_n 2, 1) := by decide +kernel
theorem dX8_takerOf_11 : decode cX8_takerOf 11 = .ok (.invokevirtual 110, 3) := by decide +kernel
theorem dX8_takerOf_14 : decode cX8_takerOf 14 = .ok (.ifCond .ne 7, 3) := by decide +kernel
theorem dX8_takerOf_17 : decode cX8_takerOf 17 = .ok (.iconst 1, 1) := by decide +kernel
theorem dX8_takerOf_18 : decode cX8_takerOf 18 = .ok (.goto 18, 3) := by decide +kernel
theorem dX8_takerOf_21 : decode cX8_takerOf 21 = .ok (.aload_n 0, 1) := by decide +kernel
theorem dX8_takerOf_22 : decode cX8_takerOf 22 = .ok (.iload_n 1, 1) := by decide +kernel
theorem dX8_takerOf_23 : decode cX8_takerOf 23 = .ok (.iconst 2, 1) := by decide +kernel
theorem dX8_takerOf_24 : decode cX8_takerOf 24 = .ok (.invokevirtual 72, 3) := by decide +kernel
theorem dX8_takerOf_27 : decode cX8_takerOf 27 = .ok (.iconst 1, 1) := by decide +kernel
theorem dX8_takerOf_28 : decode cX8_takerOf 28 = .ok (.if_icmp .ne 7, 3) := by decide +kernel
theorem dX8_takerOf_31 : decode cX8_takerOf 31 = .ok (.iconst 2, 1) := by decide +kernel
theorem dX8_takerOf_32 : decode cX8_takerOf 32 = .ok (.goto 4, 3) := by decide +kernel
theorem dX8_takerOf_35 : decode cX8_takerOf 35 = .ok (.iconst 0, 1) := by decide +kernel
theorem dX8_takerOf_36 : decode cX8_takerOf 36 = .ok (.invokevirtual 89, 3) := by decide +kernel
theorem dX8_takerOf_39 : decode cX8_takerOf 39 = .ok (.ifCond .eq 5, 3) := by decide +kernel
theorem dX8_takerOf_42 : decode cX8_takerOf 42 = .ok (.iconst 0, 1) := by decide +kernel
theorem dX8_takerOf_43 : decode cX8_takerOf 43 = .ok (.ireturn, 1) := by decide +kernel
theorem dX8_takerOf_44 : decode cX8_takerOf 44 = .ok (.aload_n 0, 1) := by decide +kernel
theorem dX8_takerOf_45 : decode cX8_takerOf 45 = .ok (.iload_n 1, 1) := by decide +kernel
theorem dX8_takerOf_46 : decode cX8_takerOf 46 = .ok (.invokevirtual 144, 3) := by decide +kernel
theorem dX8_takerOf_49 : decode cX8_takerOf 49 = .ok (.istore_n 3, 1) := by decide +kernel
theorem dX8_takerOf_50 : decode cX8_takerOf 50 = .ok (.aload_n 0, 1) := by decide +kernel
theorem dX8_takerOf_51 : decode cX8_takerOf 51 = .ok (.iload_n 3, 1) := by decide +kernel
theorem dX8_takerOf_52 : decode cX8_takerOf 52 = .ok (.ifCond .ge 7, 3) := by decide +kernel
theorem dX8_takerOf_55 : decode cX8_takerOf 55 = .ok (.iconst 3, 1) := by decide +kernel
theorem dX8_takerOf_56 : decode cX8_takerOf 56 = .ok (.goto 17, 3) := by decide +kernel
theorem dX8_takerOf_59 : decode cX8_takerOf 59 = .ok (.aload_n 0, 1) := by decide +kernel
theorem dX8_takerOf_60 : decode cX8_takerOf 60 = .ok (.iload_n 1, 1) := by decide +kernel
theorem dX8_takerOf_61 : decode cX8_takerOf 61 = .ok (.iload_n 2, 1) := by decide +kernel
theorem dX8_takerOf_62 : decode cX8_takerOf 62 = .ok (.invokevirtual 79, 3) := by decide +kernel
theorem dX8_takerOf_65 : decode cX8_takerOf 65 = .ok (.ifCond .ne 7, 3) := by decide +kernel
theorem dX8_takerOf_68 : decode cX8_takerOf 68 = .ok (.iconst 4, 1) := by decide +kernel
theorem dX8_takerOf_69 : decode cX8_takerOf 69 = .ok (.goto 4, 3) := by decide +kernel
theorem dX8_takerOf_72 : decode cX8_takerOf 72 = .ok (.iconst 0, 1) := by decide +kernel
theorem dX8_takerOf_73 : decode cX8_takerOf 73 = .ok (.invokevirtual 89, 3) := by decide +kernel
theorem dX8_takerOf_76 : decode cX8_takerOf 76 = .ok (.ifCond .eq 7, 3) := by decide +kernel
theorem dX8_takerOf_79 : decode cX8_takerOf 79 = .ok (.iconst 0, 1) := by decide +kernel
theorem dX8_takerOf_80 : decode cX8_takerOf 80 = .ok (.goto 9, 3) := by decide +kernel
theorem dX8_takerOf_83 : decode cX8_takerOf 83 = .ok (.aload_n 0, 1) := by decide +kernel
theorem dX8_takerOf_84 : decode cX8_takerOf 84 = .ok (.getfield 39, 3) := by decide +kernel
theorem dX8_takerOf_87 : decode cX8_takerOf 87 = .ok (.iload_n 2, 1) := by decide +kernel
theorem dX8_takerOf_88 : decode cX8_takerOf 88 = .ok (.iaload, 1) := by decide +kernel
theorem dX8_takerOf_89 : decode cX8_takerOf 89 = .ok (.ireturn, 1) := by decide +kernel
theorem dX8_traderByMoney_0 : decode cX8_traderByMoney 0 = .ok (.iconst 0, 1) := by decide +kernel
theorem dX8_traderByMoney_1 : decode cX8_traderByMoney 1 = .ok (.istore_n 2, 1) := by decide +kernel
theorem dX8_traderByMoney_2 : decode cX8_traderByMoney 2 = .ok (.iload_n 2, 1) := by decide +kernel
theorem dX8_traderByMoney_3 : decode cX8_traderByMoney 3 = .ok (.aload_n 0, 1) := by decide +kernel
theorem dX8_traderByMoney_4 : decode cX8_traderByMoney 4 = .ok (.getfield 7, 3) := by decide +kernel
theorem dX8_traderByMoney_7 : decode cX8_traderByMoney 7 = .ok (.iconst 1, 1) := by decide +kernel
theorem dX8_traderByMoney_8 : decode cX8_traderByMoney 8 = .ok (.iaload, 1) := by decide +kernel
theorem dX8_traderByMoney_9 : decode cX8_traderByMoney 9 = .ok (.if_icmp .ge 92, 3) := by decide +kernel
theorem dX8_traderByMoney_12 : decode cX8_traderByMoney 12 = .ok (.iconst 0, 1) := by decide +kernel
theorem dX8_traderByMoney_13 : decode cX8_traderByMoney 13 = .ok (.istore_n 3, 1) := by decide +kernel
theorem dX8_traderByMoney_14 : decode cX8_traderByMoney 14 = .ok (.iconst 0, 1) := by decide +kernel
theorem dX8_traderByMoney_15 : decode cX8_traderByMoney 15 = .ok (.istore 4, 2) := by decide +kernel
theorem dX8_traderByMoney_17 : decode cX8_traderByMoney 17 = .ok (.iload 4, 2) := by decide +kernel
theorem dX8_traderByMoney_19 : decode cX8_traderByMoney 19 = .ok (.aload_n 0, 1) := by decide +kernel
theorem dX8_traderByMoney_20 : decode cX8_traderByMoney 20 = .ok (.getfield 7, 3) := by decide +kernel
theorem dX8_traderByMoney_23 : decode cX8_traderByMoney 23 = .ok (.iconst 1, 1) := by decide +kernel
theorem dX8_traderByMoney_24 : decode cX8_traderByMoney 24 = .ok (.iaload, 1) := by decide +kernel
theorem dX8_traderByMoney_25 : decode cX8_traderByMoney 25 = .ok (.if_icmp .ge 55, 3) := by decide +kernel
theorem dX8_traderByMoney_28 : decode cX8_traderByMoney 28 = .ok (.iload_n 3, 1) := by decide +kernel
theorem dX8_traderByMoney_29 : decode cX8_traderByMoney 29 = .ok (.aload_n 0, 1) := by decide +kernel
theorem dX8_traderByMoney_30 : decode cX8_traderByMoney 30 = .ok (.iload 4, 2) := by decide +kernel
theorem dX8_traderByMoney_32 : decode cX8_traderByMoney 32 = .ok (.iconst 0, 1) := by decide +kernel
theorem dX8_traderByMoney_33 : decode cX8_traderByMoney 33 = .ok (.invokevirtual 72, 3) := by decide +kernel
theorem dX8_traderByMoney_36 : decode cX8_traderByMoney 36 = .ok (.aload_n 0, 1) := by decide +kernel
theorem dX8_traderByMoney_37 : decode cX8_traderByMoney 37 = .ok (.iload_n 2, 1) := by decide +kernel
theorem dX8_traderByMoney_38 : decode cX8_traderByMoney 38 = .ok (.iconst 0, 1) := by decide +kernel
theorem dX8_traderByMoney_39 : decode cX8_traderByMoney 39 = .ok (.invokevirtual 72, 3) := by decide +kernel
theorem dX8_traderByMoney_42 : decode cX8_traderByMoney 42 = .ok (.if_icmp .gt 25, 3) := by decide +kernel
theorem dX8_traderByMoney_45 : decode cX8_traderByMoney 45 = .ok (.aload_n 0, 1) := by decide +kernel
theorem dX8_traderByMoney_46 : decode cX8_traderByMoney 46 = .ok (.iload 4, 2) := by decide +kernel
theorem dX8_traderByMoney_48 : decode cX8_traderByMoney 48 = .ok (.iconst 0, 1) := by decide +kernel
theorem dX8_traderByMoney_49 : decode cX8_traderByMoney 49 = .ok (.invokevirtual 72, 3) := by decide +kernel
theorem dX8_traderByMoney_52 : decode cX8_traderByMoney 52 = .ok (.aload_n 0, 1) := by decide +kernel
theorem dX8_traderByMoney_53 : decode cX8_traderByMoney 53 = .ok (.iload_n 2, 1) := by decide +kernel
theorem dX8_traderByMoney_54 : decode cX8_traderByMoney 54 = .ok (.iconst 0, 1) := by decide +kernel
theorem dX8_traderByMoney_55 : decode cX8_traderByMoney 55 = .ok (.invokevirtual 72, 3) := by decide +kernel
theorem dX8_traderByMoney_58 : decode cX8_traderByMoney 58 = .ok (.if_icmp .ne 13, 3) := by decide +kernel
theorem dX8_traderByMoney_61 : decode cX8_traderByMoney 61 = .ok (.iload 4, 2) := by decide +kernel
theorem dX8_traderByMoney_63 : decode cX8_traderByMoney 63 = .ok (.iload_n 2, 1) := by decide +kernel
theorem dX8_traderByMoney_64 : decode cX8_traderByMoney 64 = .ok (.if_icmp .ge 7, 3) := by decide +kernel
theorem dX8_traderByMoney_67 : decode cX8_traderByMoney 67 = .ok (.iconst 1, 1) := by decide +kernel
theorem dX8_traderByMoney_68 : decode cX8_traderByMoney 68 = .ok (.goto 4, 3) := by decide +kernel
theorem dX8_traderByMoney_71 : decode cX8_traderByMoney 71 = .ok (.iconst 0, 1) := by decide +kernel
theorem dX8_traderByMoney_72 : decode cX8_traderByMoney 72 = .ok (.iadd, 1) := by decide +kernel
theorem dX8_traderByMoney_73 : decode cX8_traderByMoney 73 = .ok (.istore_n 3, 1) := by decide +kernel
theorem dX8_traderByMoney_74 : decode cX8_traderByMoney 74 = .ok (.iinc 4 1, 3) := by decide +kernel
theorem dX8_traderByMoney_77 : decode cX8_traderByMoney 77 = .ok (.goto (-60), 3) := by decide +kernel
theorem dX8_traderByMoney_80 : decode cX8_traderByMoney 80 = .ok (.iload_n 3, 1) := by decide +kernel
theorem dX8_traderByMoney_81 : decode cX8_traderByMoney 81 = .ok (.iload_n 1, 1) := by decide +kernel
theorem dX8_traderByMoney_82 : decode cX8_traderByMoney 82 = .ok (.if_icmp .eq 6, 3) := by decide +kernel
theorem dX8_traderByMoney_85 : decode cX8_traderByMoney 85 = .ok (.goto 10, 3) := by decide +kernel
theorem dX8_traderByMoney_88 : decode cX8_traderByMoney 88 = .ok (.aload_n 0, 1) := by decide +kernel
theorem dX8_traderByMoney_89 : decode cX8_traderByMoney 89 = .ok (.iconst 0, 1) := by decide +kernel
theorem dX8_traderByMoney_90 : decode cX8_traderByMoney 90 = .ok (.putfield 54, 3) := by decide +kernel
theorem dX8_traderByMoney_93 : decode cX8_traderByMoney 93 = .ok (.iload_n 2, 1) := by decide +kernel
theorem dX8_traderByMoney_94 : decode cX8_traderByMoney 94 = .ok (.ireturn, 1) := by decide +kernel
theorem dX8_traderByMoney_95 : decode cX8_traderByMoney 95 = .ok (.iinc 2 1, 3) := by decide +kernel
theorem dX8_traderByMoney_98 : decode cX8_traderByMoney 98 = .ok (.goto (-96), 3) := by decide +kernel
theorem dX8_traderByMoney_101 : decode cX8_traderByMoney 101 = .ok (.aload_n 0, 1) := by decide +kernel
theorem dX8_traderByMoney_102 : decode cX8_traderByMoney 102 = .ok (.iconst 1, 1) := by decide +kernel
theorem dX8_traderByMoney_103 : decode cX8_traderByMoney 103 = .ok (.putfield 54, 3) := by decide +kernel
theorem dX8_traderByMoney_106 : decode cX8_traderByMoney 106 = .ok (.iconst 0, 1) := by decide +kernel
theorem dX8_traderByMoney_107 : decode cX8_traderByMoney 107 = .ok (.ireturn, 1) := by decide +kernel
theorem dX8_fund_0 : decode cX8_fund 0 = .ok (.aload_n 0, 1) := by decide +kernel
theorem dX8_fund_1 : decode cX8_fund 1 = .ok (.iconst 0, 1) := by decide +kernel
theorem dX8_fund_2 : decode cX8_fund 2 = .ok (.putfield 54, 3) := by decide +kernel
theorem dX8_fund_5 : decode cX8_fund 5 = .ok (.aload_n 0, 1) := by decide +kernel
theorem dX8_fund_6 : decode cX8_fund 6 = .ok (.getfield 7, 3) := by decide +kernel
theorem dX8_fund_9 : decode cX8_fund 9 = .ok (.iconst 4, 1) := by decide +kernel
theorem dX8_fund_10 : decode cX8_fund 10 = .ok (.iaload, 1) := by decide +kernel
theorem dX8_fund_11 : decode cX8_fund 11 = .ok (.ireturn, 1) := by decide +kernel
theorem dX8_writtenOff_0 : decode cX8_writtenOff 0 = .ok (.aload_n 0, 1) := by decide +kernel
theorem dX8_writtenOff_1 : decode cX8_writtenOff 1 = .ok (.iconst 0, 1) := by decide +kernel
theorem dX8_writtenOff_2 : decode cX8_writtenOff 2 = .ok (.putfield 54, 3) := by decide +kernel
theorem dX8_writtenOff_5 : decode cX8_writtenOff 5 = .ok (.aload_n 0, 1) := by decide +kernel
theorem dX8_writtenOff_6 : decode cX8_writtenOff 6 = .ok (.getfield 7, 3) := by decide +kernel
theorem dX8_writtenOff_9 : decode cX8_writtenOff 9 = .ok (.iconst 5, 1) := by decide +kernel
theorem dX8_writtenOff_10 : decode cX8_writtenOff 10 = .ok (.iaload, 1) := by decide +kernel
theorem dX8_writtenOff_11 : decode cX8_writtenOff 11 = .ok (.ireturn, 1) := by decide +kernel
theorem dX8_broughtIn_0 : decode cX8_broughtIn 0 = .ok (.aload_n 0, 1) := by decide +kernel
theorem dX8_broughtIn_1 : decode cX8_broughtIn 1 = .ok (.iconst 0, 1) := by decide +kernel
theorem dX8_broughtIn_2 : decode cX8_broughtIn 2 = .ok (.putfield 54, 3) := by decide +kernel
theorem dX8_broughtIn_5 : decode cX8_broughtIn 5 = .ok (.aload_n 0, 1) := by decide +kernel
theorem dX8_broughtIn_6 : decode cX8_broughtIn 6 = .ok (.getfield 7, 3) := by decide +kernel
theorem dX8_broughtIn_9 : decode cX8_broughtIn 9 = .ok (.sipush 136, 3) := by decide +kernel
theorem dX8_broughtIn_12 : decode cX8_broughtIn 12 = .ok (.iaload, 1) := by decide +kernel
theorem dX8_broughtIn_13 : decode cX8_broughtIn 13 = .ok (.i2l, 1) := by decide +kernel
theorem dX8_broughtIn_14 : decode cX8_broughtIn 14 = .ok (.lreturn, 1) := by decide +kernel
theorem dX8_withdrawn_0 : decode cX8_withdrawn 0 = .ok (.aload_n 0, 1) := by decide +kernel
theorem dX8_withdrawn_1 : decode cX8_withdrawn 1 = .ok (.iconst 0, 1) := by decide +kernel
theorem dX8_withdrawn_2 : decode cX8_withdrawn 2 = .ok (.putfield 54, 3) := by decide +kernel
theorem dX8_withdrawn_5 : decode cX8_withdrawn 5 = .ok (.aload_n 0, 1) := by decide +kernel
theorem dX8_withdrawn_6 : decode cX8_withdrawn 6 = .ok (.getfield 7, 3) := by decide +kernel
theorem dX8_withdrawn_9 : decode cX8_withdrawn 9 = .ok (.sipush 137, 3) := by decide +kernel
theorem dX8_withdrawn_12 : decode cX8_withdrawn 12 = .ok (.iaload, 1) := by decide +kernel
theorem dX8_withdrawn_13 : decode cX8_withdrawn 13 = .ok (.i2l, 1) := by decide +kernel
theorem dX8_withdrawn_14 : decode cX8_withdrawn 14 = .ok (.lreturn, 1) := by decide +kernel
theorem dX8_dayCount_0 : decode cX8_dayCount 0 = .ok (.aload_n 0, 1) := by decide +kernel
theorem dX8_dayCount_1 : decode cX8_dayCount 1 = .ok (.iconst 0, 1) := by decide +kernel
theorem dX8_dayCount_2 : decode cX8_dayCount 2 = .ok (.putfield 54, 3) := by decide +kernel
theorem dX8_dayCount_5 : decode cX8_dayCount 5 = .ok (.aload_n 0, 1) := by decide +kernel
theorem dX8_dayCount_6 : decode cX8_dayCount 6 = .ok (.getfield 7, 3) := by decide +kernel
theorem dX8_dayCount_9 : decode cX8_dayCount 9 = .ok (.iconst 3, 1) := by decide +kernel
theorem dX8_dayCount_10 : decode cX8_dayCount 10 = .ok (.iaload, 1) := by decide +kernel
theorem dX8_dayCount_11 : decode cX8_dayCount 11 = .ok (.ireturn, 1) := by decide +kernel
theorem dX8_meanMargin_0 : decode cX8_meanMargin 0 = .ok (.aload_n 0, 1) := by decide +kernel
theorem dX8_meanMargin_1 : decode cX8_meanMargin 1 = .ok (.aload_n 0, 1) := by decide +kernel
theorem dX8_meanMargin_2 : decode cX8_meanMargin 2 = .ok (.getfield 7, 3) := by decide +kernel
theorem dX8_meanMargin_5 : decode cX8_meanMargin 5 = .ok (.iconst 1, 1) := by decide +kernel
theorem dX8_meanMargin_6 : decode cX8_meanMargin 6 = .ok (.iaload, 1) := by decide +kernel
theorem dX8_meanMargin_7 : decode cX8_meanMargin 7 = .ok (.ifCond .ne 7, 3) := by decide +kernel
theorem dX8_meanMargin_10 : decode cX8_meanMargin 10 = .ok (.iconst 1, 1) := by decide +kernel
theorem dX8_meanMargin_11 : decode cX8_meanMargin 11 = .ok (.goto 4, 3) := by decide +kernel
theorem dX8_meanMargin_14 : decode cX8_meanMargin 14 = .ok (.iconst 0, 1) := by decide +kernel
theorem dX8_meanMargin_15 : decode cX8_meanMargin 15 = .ok (.invokevirtual 89, 3) := by decide +kernel
theorem dX8_meanMargin_18 : decode cX8_meanMargin 18 = .ok (.ifCond .eq 5, 3) := by decide +kernel
theorem dX8_meanMargin_21 : decode cX8_meanMargin 21 = .ok (.dconst 0, 1) := by decide +kernel
theorem dX8_meanMargin_22 : decode cX8_meanMargin 22 = .ok (.dreturn, 1) := by decide +kernel
theorem dX8_meanMargin_23 : decode cX8_meanMargin 23 = .ok (.iconst 0, 1) := by decide +kernel
theorem dX8_meanMargin_24 : decode cX8_meanMargin 24 = .ok (.istore_n 1, 1) := by decide +kernel
theorem dX8_meanMargin_25 : decode cX8_meanMargin 25 = .ok (.iconst 0, 1) := by decide +kernel
theorem dX8_meanMargin_26 : decode cX8_meanMargin 26 = .ok (.istore_n 2, 1) := by decide +kernel
theorem dX8_meanMargin_27 : decode cX8_meanMargin 27 = .ok (.iload_n 2, 1) := by decide +kernel
theorem dX8_meanMargin_28 : decode cX8_meanMargin 28 = .ok (.aload_n 0, 1) := by decide +kernel
theorem dX8_meanMargin_29 : decode cX8_meanMargin 29 = .ok (.getfield 7, 3) := by decide +kernel
theorem dX8_meanMargin_32 : decode cX8_meanMargin 32 = .ok (.iconst 1, 1) := by decide +kernel
theorem dX8_meanMargin_33 : decode cX8_meanMargin 33 = .ok (.iaload, 1) := by decide +kernel
theorem dX8_meanMargin_34 : decode cX8_meanMargin 34 = .ok (.if_icmp .ge 17, 3) := by decide +kernel
theorem dX8_meanMargin_37 : decode cX8_meanMargin 37 = .ok (.iload_n 1, 1) := by decide +kernel
theorem dX8_meanMargin_38 : decode cX8_meanMargin 38 = .ok (.aload_n 0, 1) := by decide +kernel
theorem dX8_meanMargin_39 : decode cX8_meanMargin 39 = .ok (.iload_n 2, 1) := by decide +kernel
theorem dX8_meanMargin_40 : decode cX8_meanMargin 40 = .ok (.invokevirtual 104, 3) := by decide +kernel
theorem dX8_meanMargin_43 : decode cX8_meanMargin 43 = .ok (.iadd, 1) := by decide +kernel
theorem dX8_meanMargin_44 : decode cX8_meanMargin 44 = .ok (.istore_n 1, 1) := by decide +kernel
theorem dX8_meanMargin_45 : decode cX8_meanMargin 45 = .ok (.iinc 2 1, 3) := by decide +kernel
theorem dX8_meanMargin_48 : decode cX8_meanMargin 48 = .ok (.goto (-21), 3) := by decide +kernel
theorem dX8_meanMargin_51 : decode cX8_meanMargin 51 = .ok (.iload_n 1, 1) := by decide +kernel
theorem dX8_meanMargin_52 : decode cX8_meanMargin 52 = .ok (.i2d, 1) := by decide +kernel
theorem dX8_meanMargin_53 : decode cX8_meanMargin 53 = .ok (.aload_n 0, 1) := by decide +kernel
theorem dX8_meanMargin_54 : decode cX8_meanMargin 54 = .ok (.getfield 7, 3) := by decide +kernel
theorem dX8_meanMargin_57 : decode cX8_meanMargin 57 = .ok (.iconst 1, 1) := by decide +kernel
theorem dX8_meanMargin_58 : decode cX8_meanMargin 58 = .ok (.iaload, 1) := by decide +kernel
theorem dX8_meanMargin_59 : decode cX8_meanMargin 59 = .ok (.i2d, 1) := by decide +kernel
theorem dX8_meanMargin_60 : decode cX8_meanMargin 60 = .ok (.ddiv, 1) := by decide +kernel
theorem dX8_meanMargin_61 : decode cX8_meanMargin 61 = .ok (.dreturn, 1) := by decide +kernel
theorem dX8_soundShare_0 : decode cX8_soundShare 0 = .ok (.aload_n 0, 1) := by decide +kernel
theorem dX8_soundShare_1 : decode cX8_soundShare 1 = .ok (.aload_n 0, 1) := by decide +kernel
theorem dX8_soundShare_2 : decode cX8_soundShare 2 = .ok (.getfield 7, 3) := by decide +kernel
theorem dX8_soundShare_5 : decode cX8_soundShare 5 = .ok (.iconst 1, 1) := by decide +kernel
theorem dX8_soundShare_6 : decode cX8_soundShare 6 = .ok (.iaload, 1) := by decide +kernel
theorem dX8_soundShare_7 : decode cX8_soundShare 7 = .ok (.ifCond .ne 7, 3) := by decide +kernel
theorem dX8_soundShare_10 : decode cX8_soundShare 10 = .ok (.iconst 1, 1) := by decide +kernel
theorem dX8_soundShare_11 : decode cX8_soundShare 11 = .ok (.goto 4, 3) := by decide +kernel
theorem dX8_soundShare_14 : decode cX8_soundShare 14 = .ok (.iconst 0, 1) := by decide +kernel
theorem dX8_soundShare_15 : decode cX8_soundShare 15 = .ok (.invokevirtual 89, 3) := by decide +kernel
theorem dX8_soundShare_18 : decode cX8_soundShare 18 = .ok (.ifCond .eq 5, 3) := by decide +kernel
theorem dX8_soundShare_21 : decode cX8_soundShare 21 = .ok (.fconst 0, 1) := by decide +kernel
theorem dX8_soundShare_22 : decode cX8_soundShare 22 = .ok (.freturn, 1) := by decide +kernel
theorem dX8_soundShare_23 : decode cX8_soundShare 23 = .ok (.iconst 0, 1) := by decide +kernel
theorem dX8_soundShare_24 : decode cX8_soundShare 24 = .ok (.istore_n 1, 1) := by decide +kernel
theorem dX8_soundShare_25 : decode cX8_soundShare 25 = .ok (.iconst 0, 1) := by decide +kernel
theorem dX8_soundShare_26 : decode cX8_soundShare 26 = .ok (.istore_n 2, 1) := by decide +kernel
theorem dX8_soundShare_27 : decode cX8_soundShare 27 = .ok (.iload_n 2, 1) := by decide +kernel
theorem dX8_soundShare_28 : decode cX8_soundShare 28 = .ok (.aload_n 0, 1) := by decide +kernel
theorem dX8_soundShare_29 : decode cX8_soundShare 29 = .ok (.getfield 7, 3) := by decide +kernel
theorem dX8_soundShare_32 : decode cX8_soundShare 32 = .ok (.iconst 1, 1) := by decide +kernel
theorem dX8_soundShare_33 : decode cX8_soundShare 33 = .ok (.iaload, 1) := by decide +kernel
theorem dX8_soundShare_34 : decode cX8_soundShare 34 = .ok (.if_icmp .ge 25, 3) := by decide +kernel
theorem dX8_soundShare_37 : decode cX8_soundShare 37 = .ok (.iload_n 1, 1) := by decide +kernel
theorem dX8_soundShare_38 : decode cX8_soundShare 38 = .ok (.aload_n 0, 1) := by decide +kernel
theorem dX8_soundShare_39 : decode cX8_soundShare 39 = .ok (.iload_n 2, 1) := by decide +kernel
theorem dX8_soundShare_40 : decode cX8_soundShare 40 = .ok (.invokevirtual 113, 3) := by decide +kernel
theorem dX8_soundShare_43 : decode cX8_soundShare 43 = .ok (.ifCond .eq 7, 3) := by decide +kernel
theorem dX8_soundShare_46 : decode cX8_soundShare 46 = .ok (.iconst 1, 1) := by decide +kernel
theorem dX8_soundShare_47 : decode cX8_soundShare 47 = .ok (.goto 4, 3) := by decide +kernel
theorem dX8_soundShare_50 : decode cX8_soundShare 50 = .ok (.iconst 0, 1) := by decide +kernel
theorem dX8_soundShare_51 : decode cX8_soundShare 51 = .ok (.iadd, 1) := by decide +kernel
theorem dX8_soundShare_52 : decode cX8_soundShare 52 = .ok (.istore_n 1, 1) := by decide +kernel
theorem dX8_soundShare_53 : decode cX8_soundShare 53 = .ok (.iinc 2 1, 3) := by decide +kernel
theorem dX8_soundShare_56 : decode cX8_soundShare 56 = .ok (.goto (-29), 3) := by decide +kernel
theorem dX8_soundShare_59 : decode cX8_soundShare 59 = .ok (.iload_n 1, 1) := by decide +kernel
theorem dX8_soundShare_60 : decode cX8_soundShare 60 = .ok (.i2f, 1) := by decide +kernel
theorem dX8_soundShare_61 : decode cX8_soundShare 61 = .ok (.aload_n 0, 1) := by decide +kernel
theorem dX8_soundShare_62 : decode cX8_soundShare 62 = .ok (.getfield 7, 3) := by decide +kernel
theorem dX8_soundShare_65 : decode cX8_soundShare 65 = .ok (.iconst 1, 1) := by decide +kernel
theorem dX8_soundShare_66 : decode cX8_soundShare 66 = .ok (.iaload, 1) := by decide +kernel
theorem dX8_soundShare_67 : decode cX8_soundShare 67 = .ok (.i2f, 1) := by decide +kernel
theorem dX8_soundShare_68 : decode cX8_soundShare 68 = .ok (.fdiv, 1) := by decide +kernel
theorem dX8_soundShare_69 : decode cX8_soundShare 69 = .ok (.freturn, 1) := by decide +kernel
theorem dX8_writes_0 : decode cX8_writes 0 = .ok (.aload_n 0, 1) := by decide +kernel
theorem dX8_writes_1 : decode cX8_writes 1 = .ok (.getfield 32, 3) := by decide +kernel
theorem dX8_writes_4 : decode cX8_writes 4 = .ok (.aload_n 0, 1) := by decide +kernel
theorem dX8_writes_5 : decode cX8_writes 5 = .ok (.getfield 179, 3) := by decide +kernel
theorem dX8_writes_8 : decode cX8_writes 8 = .ok (.iload_n 1, 1) := by decide +kernel
theorem dX8_writes_9 : decode cX8_writes 9 = .ok (.i2c, 1) := by decide +kernel
theorem dX8_writes_10 : decode cX8_writes 10 = .ok (.castore, 1) := by decide +kernel
theorem dX8_writes_11 : decode cX8_writes 11 = .ok (.aload_n 0, 1) := by decide +kernel
theorem dX8_writes_12 : decode cX8_writes 12 = .ok (.dup, 1) := by decide +kernel
theorem dX8_writes_13 : decode cX8_writes 13 = .ok (.getfield 179, 3) := by decide +kernel
theorem dX8_writes_16 : decode cX8_writes 16 = .ok (.iconst 1, 1) := by decide +kernel
theorem dX8_writes_17 : decode cX8_writes 17 = .ok (.iadd, 1) := by decide +kernel
theorem dX8_writes_18 : decode cX8_writes 18 = .ok (.putfield 179, 3) := by decide +kernel
theorem dX8_writes_21 : decode cX8_writes 21 = .ok (.return_, 1) := by decide +kernel
theorem dX8_writesNumber_0 : decode cX8_writesNumber 0 = .ok (.iload_n 1, 1) := by decide +kernel
theorem dX8_writesNumber_1 : decode cX8_writesNumber 1 = .ok (.ifCond .ge 16, 3) := by decide +kernel
theorem dX8_writesNumber_4 : decode cX8_writesNumber 4 = .ok (.aload_n 0, 1) := by decide +kernel
theorem dX8_writesNumber_5 : decode cX8_writesNumber 5 = .ok (.bipush 45, 2) := by decide +kernel
theorem dX8_writesNumber_7 : decode cX8_writesNumber 7 = .ok (.invokevirtual 182, 3) := by decide +kernel
theorem dX8_writesNumber_10 : decode cX8_writesNumber 10 = .ok (.aload_n 0, 1) := by decide +kernel
theorem dX8_writesNumber_11 : decode cX8_writesNumber 11 = .ok (.iload_n 1, 1) := by decide +kernel
theorem dX8_writesNumber_12 : decode cX8_writesNumber 12 = .ok (.ineg, 1) := by decide +kernel
theorem dX8_writesNumber_13 : decode cX8_writesNumber 13 = .ok (.invokevirtual 185, 3) := by decide +kernel
theorem dX8_writesNumber_16 : decode cX8_writesNumber 16 = .ok (.return_, 1) := by decide +kernel
theorem dX8_writesNumber_17 : decode cX8_writesNumber 17 = .ok (.iload_n 1, 1) := by decide +kernel
theorem dX8_writesNumber_18 : decode cX8_writesNumber 18 = .ok (.bipush 9, 2) := by decide +kernel
theorem dX8_writesNumber_20 : decode cX8_writesNumber 20 = .ok (.if_icmp .le 11, 3) := by decide +kernel
theorem dX8_writesNumber_23 : decode cX8_writesNumber 23 = .ok (.aload_n 0, 1) := by decide +kernel
theorem dX8_writesNumber_24 : decode cX8_writesNumber 24 = .ok (.iload_n 1, 1) := by decide +kernel
theorem dX8_writesNumber_25 : decode cX8_writesNumber 25 = .ok (.bipush 10, 2) := by decide +kernel
theorem dX8_writesNumber_27 : decode cX8_writesNumber 27 = .ok (.idiv, 1) := by decide +kernel
theorem dX8_writesNumber_28 : decode cX8_writesNumber 28 = .ok (.invokevirtual 185, 3) := by decide +kernel
theorem dX8_writesNumber_31 : decode cX8_writesNumber 31 = .ok (.aload_n 0, 1) := by decide +kernel
theorem dX8_writesNumber_32 : decode cX8_writesNumber 32 = .ok (.bipush 48, 2) := by decide +kernel
theorem dX8_writesNumber_34 : decode cX8_writesNumber 34 = .ok (.iload_n 1, 1) := by decide +kernel
theorem dX8_writesNumber_35 : decode cX8_writesNumber 35 = .ok (.bipush 10, 2) := by decide +kernel
theorem dX8_writesNumber_37 : decode cX8_writesNumber 37 = .ok (.irem, 1) := by decide +kernel
theorem dX8_writesNumber_38 : decode cX8_writesNumber 38 = .ok (.iadd, 1) := by decide +kernel
theorem dX8_writesNumber_39 : decode cX8_writesNumber 39 = .ok (.invokevirtual 182, 3) := by decide +kernel
theorem dX8_writesNumber_42 : decode cX8_writesNumber 42 = .ok (.return_, 1) := by decide +kernel
theorem dX8_writesBehind_0 : decode cX8_writesBehind 0 = .ok (.aload_n 0, 1) := by decide +kernel
theorem dX8_writesBehind_1 : decode cX8_writesBehind 1 = .ok (.iload_n 1, 1) := by decide +kernel
theorem dX8_writesBehind_2 : decode cX8_writesBehind 2 = .ok (.invokevirtual 182, 3) := by decide +kernel
theorem dX8_writesBehind_5 : decode cX8_writesBehind 5 = .ok (.aload_n 0, 1) := by decide +kernel
theorem dX8_writesBehind_6 : decode cX8_writesBehind 6 = .ok (.iload_n 2, 1) := by decide +kernel
theorem dX8_writesBehind_7 : decode cX8_writesBehind 7 = .ok (.invokevirtual 185, 3) := by decide +kernel
theorem dX8_writesBehind_10 : decode cX8_writesBehind 10 = .ok (.return_, 1) := by decide +kernel
theorem dX8_writeContract_0 : decode cX8_writeContract 0 = .ok (.aload_n 0, 1) := by decide +kernel
theorem dX8_writeContract_1 : decode cX8_writeContract 1 = .ok (.aload_n 0, 1) := by decide +kernel
theorem dX8_writeContract_2 : decode cX8_writeContract 2 = .ok (.iload_n 1, 1) := by decide +kernel
theorem dX8_writeContract_3 : decode cX8_writeContract 3 = .ok (.invokevirtual 166, 3) := by decide +kernel
theorem dX8_writeContract_6 : decode cX8_writeContract 6 = .ok (.ifCond .eq 7, 3) := by decide +kernel
theorem dX8_writeContract_9 : decode cX8_writeContract 9 = .ok (.iconst 0, 1) := by decide +kernel
theorem dX8_writeContract_10 : decode cX8_writeContract 10 = .ok (.goto 4, 3) := by decide +kernel
theorem dX8_writeContract_13 : decode cX8_writeContract 13 = .ok (.iconst 1, 1) := by decide +kernel
theorem dX8_writeContract_14 : decode cX8_writeContract 14 = .ok (.invokevirtual 89, 3) := by decide +kernel
theorem dX8_writeContract_17 : decode cX8_writeContract 17 = .ok (.ifCond .eq 5, 3) := by decide +kernel
theorem dX8_writeContract_20 : decode cX8_writeContract 20 = .ok (.iconst 0, 1) := by decide +kernel
theorem dX8_writeContract_21 : decode cX8_writeContract 21 = .ok (.ireturn, 1) := by decide +kernel
theorem dX8_writeContract_22 : decode cX8_writeContract 22 = .ok (.aload_n 0, 1) := by decide +kernel
theorem dX8_writeContract_23 : decode cX8_writeContract 23 = .ok (.iconst 0, 1) := by decide +kernel
theorem dX8_writeContract_24 : decode cX8_writeContract 24 = .ok (.putfield 179, 3) := by decide +kernel
theorem dX8_writeContract_27 : decode cX8_writeContract 27 = .ok (.aload_n 0, 1) := by decide +kernel
theorem dX8_writeContract_28 : decode cX8_writeContract 28 = .ok (.aload_n 0, 1) := by decide +kernel
theorem dX8_writeContract_29 : decode cX8_writeContract 29 = .ok (.iload_n 1, 1) := by decide +kernel
theorem dX8_writeContract_30 : decode cX8_writeContract 30 = .ok (.iconst 0, 1) := by decide +kernel
theorem dX8_writeContract_31 : decode cX8_writeContract 31 = .ok (.invokevirtual 76, 3) := by decide +kernel
theorem dX8_writeContract_34 : decode cX8_writeContract 34 = .ok (.invokevirtual 185, 3) := by decide +kernel
theorem dX8_writeContract_37 : decode cX8_writeContract 37 = .ok (.aload_n 0, 1) := by decide +kernel
theorem dX8_writeContract_38 : decode cX8_writeContract 38 = .ok (.bipush 60, 2) := by decide +kernel
theorem dX8_writeContract_40 : decode cX8_writeContract 40 = .ok (.aload_n 0, 1) := by decide +kernel
theorem dX8_writeContract_41 : decode cX8_writeContract 41 = .ok (.iload_n 1, 1) := by decide +kernel
theorem dX8_writeContract_42 : decode cX8_writeContract 42 = .ok (.iconst 1, 1) := by decide +kernel
theorem dX8_writeContract_43 : decode cX8_writeContract 43 = .ok (.invokevirtual 76, 3) := by decide +kernel
theorem dX8_writeContract_46 : decode cX8_writeContract 46 = .ok (.invokevirtual 188, 3) := by decide +kernel
theorem dX8_writeContract_49 : decode cX8_writeContract 49 = .ok (.aload_n 0, 1) := by decide +kernel
theorem dX8_writeContract_50 : decode cX8_writeContract 50 = .ok (.bipush 58, 2) := by decide +kernel
theorem dX8_writeContract_52 : decode cX8_writeContract 52 = .ok (.aload_n 0, 1) := by decide +kernel
theorem dX8_writeContract_53 : decode cX8_writeContract 53 = .ok (.iload_n 1, 1) := by decide +kernel
theorem dX8_writeContract_54 : decode cX8_writeContract 54 = .ok (.iconst 3, 1) := by decide +kernel
theorem dX8_writeContract_55 : decode cX8_writeContract 55 = .ok (.invokevirtual 76, 3) := by decide +kernel
theorem dX8_writeContract_58 : decode cX8_writeContract 58 = .ok (.invokevirtual 188, 3) := by decide +kernel
theorem dX8_writeContract_61 : decode cX8_writeContract 61 = .ok (.aload_n 0, 1) := by decide +kernel
theorem dX8_writeContract_62 : decode cX8_writeContract 62 = .ok (.bipush 104, 2) := by decide +kernel
theorem dX8_writeContract_64 : decode cX8_writeContract 64 = .ok (.aload_n 0, 1) := by decide +kernel
theorem dX8_writeContract_65 : decode cX8_writeContract 65 = .ok (.iload_n 1, 1) := by decide +kernel
theorem dX8_writeContract_66 : decode cX8_writeContract 66 = .ok (.iconst 2, 1) := by decide +kernel
theorem dX8_writeContract_67 : decode cX8_writeContract 67 = .ok (.invokevirtual 76, 3) := by decide +kernel
theorem dX8_writeContract_70 : decode cX8_writeContract 70 = .ok (.invokevirtual 188, 3) := by decide +kernel
theorem dX8_writeContract_73 : decode cX8_writeContract 73 = .ok (.aload_n 0, 1) := by decide +kernel
theorem dX8_writeContract_74 : decode cX8_writeContract 74 = .ok (.bipush 43, 2) := by decide +kernel
theorem dX8_writeContract_76 : decode cX8_writeContract 76 = .ok (.aload_n 0, 1) := by decide +kernel
theorem dX8_writeContract_77 : decode cX8_writeContract 77 = .ok (.iload_n 1, 1) := by decide +kernel
theorem dX8_writeContract_78 : decode cX8_writeContract 78 = .ok (.iconst 4, 1) := by decide +kernel
theorem dX8_writeContract_79 : decode cX8_writeContract 79 = .ok (.invokevirtual 76, 3) := by decide +kernel
theorem dX8_writeContract_82 : decode cX8_writeContract 82 = .ok (.aload_n 0, 1) := by decide +kernel
theorem dX8_writeContract_83 : decode cX8_writeContract 83 = .ok (.getfield 7, 3) := by decide +kernel
theorem dX8_writeContract_86 : decode cX8_writeContract 86 = .ok (.iconst 3, 1) := by decide +kernel
theorem dX8_writeContract_87 : decode cX8_writeContract 87 = .ok (.iaload, 1) := by decide +kernel
theorem dX8_writeContract_88 : decode cX8_writeContract 88 = .ok (.isub, 1) := by decide +kernel
theorem dX8_writeContract_89 : decode cX8_writeContract 89 = .ok (.invokevirtual 188, 3) := by decide +kernel
theorem dX8_writeContract_92 : decode cX8_writeContract 92 = .ok (.aload_n 0, 1) := by decide +kernel
theorem dX8_writeContract_93 : decode cX8_writeContract 93 = .ok (.getfield 179, 3) := by decide +kernel
theorem dX8_writeContract_96 : decode cX8_writeContract 96 = .ok (.ireturn, 1) := by decide +kernel
theorem dX8_writeTrader_0 : decode cX8_writeTrader 0 = .ok (.aload_n 0, 1) := by decide +kernel
theorem dX8_writeTrader_1 : decode cX8_writeTrader 1 = .ok (.aload_n 0, 1) := by decide +kernel
theorem dX8_writeTrader_2 : decode cX8_writeTrader 2 = .ok (.iload_n 1, 1) := by decide +kernel
theorem dX8_writeTrader_3 : decode cX8_writeTrader 3 = .ok (.invokevirtual 107, 3) := by decide +kernel
theorem dX8_writeTrader_6 : decode cX8_writeTrader 6 = .ok (.ifCond .eq 7, 3) := by decide +kernel
theorem dX8_writeTrader_9 : decode cX8_writeTrader 9 = .ok (.iconst 0, 1) := by decide +kernel
theorem dX8_writeTrader_10 : decode cX8_writeTrader 10 = .ok (.goto 4, 3) := by decide +kernel
theorem dX8_writeTrader_13 : decode cX8_writeTrader 13 = .ok (.iconst 1, 1) := by decide +kernel
theorem dX8_writeTrader_14 : decode cX8_writeTrader 14 = .ok (.invokevirtual 89, 3) := by decide +kernel
theorem dX8_writeTrader_17 : decode cX8_writeTrader 17 = .ok (.ifCond .eq 5, 3) := by decide +kernel
theorem dX8_writeTrader_20 : decode cX8_writeTrader 20 = .ok (.iconst 0, 1) := by decide +kernel
theorem dX8_writeTrader_21 : decode cX8_writeTrader 21 = .ok (.ireturn, 1) := by decide +kernel
theorem dX8_writeTrader_22 : decode cX8_writeTrader 22 = .ok (.aload_n 0, 1) := by decide +kernel
theorem dX8_writeTrader_23 : decode cX8_writeTrader 23 = .ok (.iconst 0, 1) := by decide +kernel
theorem dX8_writeTrader_24 : decode cX8_writeTrader 24 = .ok (.putfield 179, 3) := by decide +kernel
theorem dX8_writeTrader_27 : decode cX8_writeTrader 27 = .ok (.aload_n 0, 1) := by decide +kernel
theorem dX8_writeTrader_28 : decode cX8_writeTrader 28 = .ok (.aload_n 0, 1) := by decide +kernel
theorem dX8_writeTrader_29 : decode cX8_writeTrader 29 = .ok (.iload_n 1, 1) := by decide +kernel
theorem dX8_writeTrader_30 : decode cX8_writeTrader 30 = .ok (.iconst 0, 1) := by decide +kernel
theorem dX8_writeTrader_31 : decode cX8_writeTrader 31 = .ok (.invokevirtual 72, 3) := by decide +kernel
theorem dX8_writeTrader_34 : decode cX8_writeTrader 34 = .ok (.invokevirtual 185, 3) := by decide +kernel
theorem dX8_writeTrader_37 : decode cX8_writeTrader 37 = .ok (.aload_n 0, 1) := by decide +kernel
theorem dX8_writeTrader_38 : decode cX8_writeTrader 38 = .ok (.bipush 47, 2) := by decide +kernel
theorem dX8_writeTrader_40 : decode cX8_writeTrader 40 = .ok (.aload_n 0, 1) := by decide +kernel
theorem dX8_writeTrader_41 : decode cX8_writeTrader 41 = .ok (.iload_n 1, 1) := by decide +kernel
theorem dX8_writeTrader_42 : decode cX8_writeTrader 42 = .ok (.invokevirtual 104, 3) := by decide +kernel
theorem dX8_writeTrader_45 : decode cX8_writeTrader 45 = .ok (.invokevirtual 188, 3) := by decide +kernel
theorem dX8_writeTrader_48 : decode cX8_writeTrader 48 = .ok (.aload_n 0, 1) := by decide +kernel
theorem dX8_writeTrader_49 : decode cX8_writeTrader 49 = .ok (.iload_n 1, 1) := by decide +kernel
theorem dX8_writeTrader_50 : decode cX8_writeTrader 50 = .ok (.invokevirtual 113, 3) := by decide +kernel
theorem dX8_writeTrader_53 : decode cX8_writeTrader 53 = .ok (.ifCond .ne 24, 3) := by decide +kernel
theorem dX8_writeTrader_56 : decode cX8_writeTrader 56 = .ok (.aload_n 0, 1) := by decide +kernel
theorem dX8_writeTrader_57 : decode cX8_writeTrader 57 = .ok (.aload_n 0, 1) := by decide +kernel
theorem dX8_writeTrader_58 : decode cX8_writeTrader 58 = .ok (.iload_n 1, 1) := by decide +kernel
theorem dX8_writeTrader_59 : decode cX8_writeTrader 59 = .ok (.iconst 1, 1) := by decide +kernel
theorem dX8_writeTrader_60 : decode cX8_writeTrader 60 = .ok (.invokevirtual 72, 3) := by decide +kernel
theorem dX8_writeTrader_63 : decode cX8_writeTrader 63 = .ok (.iconst 1, 1) := by decide +kernel
theorem dX8_writeTrader_64 : decode cX8_writeTrader 64 = .ok (.if_icmp .ne 8, 3) := by decide +kernel
theorem dX8_writeTrader_67 : decode cX8_writeTrader 67 = .ok (.bipush 33, 2) := by decide +kernel
theorem dX8_writeTrader_69 : decode cX8_writeTrader 69 = .ok (.goto 5, 3) := by decide +kernel
theorem dX8_writeTrader_72 : decode cX8_writeTrader 72 = .ok (.bipush 120, 2) := by decide +kernel
theorem dX8_writeTrader_74 : decode cX8_writeTrader 74 = .ok (.invokevirtual 182, 3) := by decide +kernel
theorem dX8_writeTrader_77 : decode cX8_writeTrader 77 = .ok (.aload_n 0, 1) := by decide +kernel
theorem dX8_writeTrader_78 : decode cX8_writeTrader 78 = .ok (.getfield 179, 3) := by decide +kernel
theorem dX8_writeTrader_81 : decode cX8_writeTrader 81 = .ok (.ireturn, 1) := by decide +kernel
theorem dX8_lineAt_0 : decode cX8_lineAt 0 = .ok (.aload_n 0, 1) := by decide +kernel
theorem dX8_lineAt_1 : decode cX8_lineAt 1 = .ok (.iload_n 1, 1) := by decide +kernel
theorem dX8_lineAt_2 : decode cX8_lineAt 2 = .ok (.iconst 0, 1) := by decide +kernel
theorem dX8_lineAt_3 : decode cX8_lineAt 3 = .ok (.aload_n 0, 1) := by decide +kernel
theorem dX8_lineAt_4 : decode cX8_lineAt 4 = .ok (.getfield 179, 3) := by decide +kernel
theorem dX8_lineAt_7 : decode cX8_lineAt 7 = .ok (.iconst 1, 1) := by decide +kernel
theorem dX8_lineAt_8 : decode cX8_lineAt 8 = .ok (.isub, 1) := by decide +kernel
theorem dX8_lineAt_9 : decode cX8_lineAt 9 = .ok (.invokestatic 68, 3) := by decide +kernel
theorem dX8_lineAt_12 : decode cX8_lineAt 12 = .ok (.ifCond .eq 7, 3) := by decide +kernel
theorem dX8_lineAt_15 : decode cX8_lineAt 15 = .ok (.iconst 0, 1) := by decide +kernel
theorem dX8_lineAt_16 : decode cX8_lineAt 16 = .ok (.goto 4, 3) := by decide +kernel
theorem dX8_lineAt_19 : decode cX8_lineAt 19 = .ok (.iconst 1, 1) := by decide +kernel
theorem dX8_lineAt_20 : decode cX8_lineAt 20 = .ok (.invokevirtual 89, 3) := by decide +kernel
theorem dX8_lineAt_23 : decode cX8_lineAt 23 = .ok (.ifCond .eq 8, 3) := by decide +kernel
theorem dX8_lineAt_26 : decode cX8_lineAt 26 = .ok (.bipush 32, 2) := by decide +kernel
theorem dX8_lineAt_28 : decode cX8_lineAt 28 = .ok (.goto 9, 3) := by decide +kernel
theorem dX8_lineAt_31 : decode cX8_lineAt 31 = .ok (.aload_n 0, 1) := by decide +kernel
theorem dX8_lineAt_32 : decode cX8_lineAt 32 = .ok (.getfield 32, 3) := by decide +kernel
theorem dX8_lineAt_35 : decode cX8_lineAt 35 = .ok (.iload_n 1, 1) := by decide +kernel
theorem dX8_lineAt_36 : decode cX8_lineAt 36 = .ok (.caload, 1) := by decide +kernel
theorem dX8_lineAt_37 : decode cX8_lineAt 37 = .ok (.ireturn, 1) := by decide +kernel
theorem dX8_isConsistent_0 : decode cX8_isConsistent 0 = .ok (.aload_n 0, 1) := by decide +kernel
theorem dX8_isConsistent_1 : decode cX8_isConsistent 1 = .ok (.iconst 0, 1) := by decide +kernel
theorem dX8_isConsistent_2 : decode cX8_isConsistent 2 = .ok (.putfield 54, 3) := by decide +kernel
theorem dX8_isConsistent_5 : decode cX8_isConsistent 5 = .ok (.aload_n 0, 1) := by decide +kernel
theorem dX8_isConsistent_6 : decode cX8_isConsistent 6 = .ok (.getfield 7, 3) := by decide +kernel
theorem dX8_isConsistent_9 : decode cX8_isConsistent 9 = .ok (.iconst 4, 1) := by decide +kernel
theorem dX8_isConsistent_10 : decode cX8_isConsistent 10 = .ok (.iaload, 1) := by decide +kernel
theorem dX8_isConsistent_11 : decode cX8_isConsistent 11 = .ok (.istore_n 1, 1) := by decide +kernel
theorem dX8_isConsistent_12 : decode cX8_isConsistent 12 = .ok (.iconst 0, 1) := by decide +kernel
theorem dX8_isConsistent_13 : decode cX8_isConsistent 13 = .ok (.istore_n 2, 1) := by decide +kernel
theorem dX8_isConsistent_14 : decode cX8_isConsistent 14 = .ok (.iload_n 2, 1) := by decide +kernel
theorem dX8_isConsistent_15 : decode cX8_isConsistent 15 = .ok (.aload_n 0, 1) := by decide +kernel
theorem dX8_isConsistent_16 : decode cX8_isConsistent 16 = .ok (.getfield 7, 3) := by decide +kernel
theorem dX8_isConsistent_19 : decode cX8_isConsistent 19 = .ok (.iconst 1, 1) := by decide +kernel
theorem dX8_isConsistent_20 : decode cX8_isConsistent 20 = .ok (.iaload, 1) := by decide +kernel
theorem dX8_isConsistent_21 : decode cX8_isConsistent 21 = .ok (.if_icmp .ge 18, 3) := by decide +kernel
theorem dX8_isConsistent_24 : decode cX8_isConsistent 24 = .ok (.iload_n 1, 1) := by decide +kernel
theorem dX8_isConsistent_25 : decode cX8_isConsistent 25 = .ok (.aload_n 0, 1) := by decide +kernel
theorem dX8_isConsistent_26 : decode cX8_isConsistent 26 = .ok (.iload_n 2, 1) := by decide +kernel
theorem dX8_isConsistent_27 : decode cX8_isConsistent 27 = .ok (.iconst 0, 1) := by decide +kernel
theorem dX8_isConsistent_28 : decode cX8_isConsistent 28 = .ok (.invokevirtual 72, 3) := by decide +kernel
theorem dX8_isConsistent_31 : decode cX8_isConsistent 31 = .ok (.iadd, 1) := by decide +kernel
theorem dX8_isConsistent_32 : decode cX8_isConsistent 32 = .ok (.istore_n 1, 1) := by decide +kernel
theorem dX8_isConsistent_33 : decode cX8_isConsistent 33 = .ok (.iinc 2 1, 3) := by decide +kernel
theorem dX8_isConsistent_36 : decode cX8_isConsistent 36 = .ok (.goto (-22), 3) := by decide +kernel
theorem dX8_isConsistent_39 : decode cX8_isConsistent 39 = .ok (.iload_n 1, 1) := by decide +kernel
theorem dX8_isConsistent_40 : decode cX8_isConsistent 40 = .ok (.aload_n 0, 1) := by decide +kernel
theorem dX8_isConsistent_41 : decode cX8_isConsistent 41 = .ok (.getfield 7, 3) := by decide +kernel
theorem dX8_isConsistent_44 : decode cX8_isConsistent 44 = .ok (.sipush 136, 3) := by decide +kernel
theorem dX8_isConsistent_47 : decode cX8_isConsistent 47 = .ok (.iaload, 1) := by decide +kernel
theorem dX8_isConsistent_48 : decode cX8_isConsistent 48 = .ok (.aload_n 0, 1) := by decide +kernel
theorem dX8_isConsistent_49 : decode cX8_isConsistent 49 = .ok (.getfield 7, 3) := by decide +kernel
theorem dX8_isConsistent_52 : decode cX8_isConsistent 52 = .ok (.sipush 137, 3) := by decide +kernel
theorem dX8_isConsistent_55 : decode cX8_isConsistent 55 = .ok (.iaload, 1) := by decide +kernel
theorem dX8_isConsistent_56 : decode cX8_isConsistent 56 = .ok (.isub, 1) := by decide +kernel
theorem dX8_isConsistent_57 : decode cX8_isConsistent 57 = .ok (.aload_n 0, 1) := by decide +kernel
theorem dX8_isConsistent_58 : decode cX8_isConsistent 58 = .ok (.getfield 7, 3) := by decide +kernel
theorem dX8_isConsistent_61 : decode cX8_isConsistent 61 = .ok (.iconst 5, 1) := by decide +kernel
theorem dX8_isConsistent_62 : decode cX8_isConsistent 62 = .ok (.iaload, 1) := by decide +kernel
theorem dX8_isConsistent_63 : decode cX8_isConsistent 63 = .ok (.iadd, 1) := by decide +kernel
theorem dX8_isConsistent_64 : decode cX8_isConsistent 64 = .ok (.if_icmp .ne 7, 3) := by decide +kernel
theorem dX8_isConsistent_67 : decode cX8_isConsistent 67 = .ok (.iconst 1, 1) := by decide +kernel
theorem dX8_isConsistent_68 : decode cX8_isConsistent 68 = .ok (.goto 4, 3) := by decide +kernel
theorem dX8_isConsistent_71 : decode cX8_isConsistent 71 = .ok (.iconst 0, 1) := by decide +kernel
theorem dX8_isConsistent_72 : decode cX8_isConsistent 72 = .ok (.ireturn, 1) := by decide +kernel
theorem dX8_type_0 : decode cX8_type 0 = .ok (.aload_n 0, 1) := by decide +kernel
theorem dX8_type_1 : decode cX8_type 1 = .ok (.iload_n 1, 1) := by decide +kernel
theorem dX8_type_2 : decode cX8_type 2 = .ok (.bipush 32, 2) := by decide +kernel
theorem dX8_type_4 : decode cX8_type 4 = .ok (.bipush 126, 2) := by decide +kernel
theorem dX8_type_6 : decode cX8_type 6 = .ok (.invokestatic 68, 3) := by decide +kernel
theorem dX8_type_9 : decode cX8_type 9 = .ok (.ifCond .ne 7, 3) := by decide +kernel
theorem dX8_type_12 : decode cX8_type 12 = .ok (.iconst 1, 1) := by decide +kernel
theorem dX8_type_13 : decode cX8_type 13 = .ok (.goto 17, 3) := by decide +kernel
theorem dX8_type_16 : decode cX8_type 16 = .ok (.aload_n 0, 1) := by decide +kernel
theorem dX8_type_17 : decode cX8_type 17 = .ok (.getfield 192, 3) := by decide +kernel
theorem dX8_type_20 : decode cX8_type 20 = .ok (.bipush 60, 2) := by decide +kernel
theorem dX8_type_22 : decode cX8_type 22 = .ok (.if_icmp .ne 7, 3) := by decide +kernel
theorem dX8_type_25 : decode cX8_type 25 = .ok (.iconst 2, 1) := by decide +kernel
theorem dX8_type_26 : decode cX8_type 26 = .ok (.goto 4, 3) := by decide +kernel
theorem dX8_type_29 : decode cX8_type 29 = .ok (.iconst 0, 1) := by decide +kernel
theorem dX8_type_30 : decode cX8_type 30 = .ok (.invokevirtual 89, 3) := by decide +kernel
theorem dX8_type_33 : decode cX8_type 33 = .ok (.ifCond .eq 5, 3) := by decide +kernel
theorem dX8_type_36 : decode cX8_type 36 = .ok (.iconst 0, 1) := by decide +kernel
theorem dX8_type_37 : decode cX8_type 37 = .ok (.ireturn, 1) := by decide +kernel
theorem dX8_type_38 : decode cX8_type 38 = .ok (.aload_n 0, 1) := by decide +kernel
theorem dX8_type_39 : decode cX8_type 39 = .ok (.getfield 22, 3) := by decide +kernel
theorem dX8_type_42 : decode cX8_type 42 = .ok (.aload_n 0, 1) := by decide +kernel
theorem dX8_type_43 : decode cX8_type 43 = .ok (.getfield 192, 3) := by decide +kernel
theorem dX8_type_46 : decode cX8_type 46 = .ok (.iload_n 1, 1) := by decide +kernel
theorem dX8_type_47 : decode cX8_type 47 = .ok (.iastore, 1) := by decide +kernel
theorem dX8_type_48 : decode cX8_type 48 = .ok (.aload_n 0, 1) := by decide +kernel
theorem dX8_type_49 : decode cX8_type 49 = .ok (.dup, 1) := by decide +kernel
theorem dX8_type_50 : decode cX8_type 50 = .ok (.getfield 192, 3) := by decide +kernel
theorem dX8_type_53 : decode cX8_type 53 = .ok (.iconst 1, 1) := by decide +kernel
theorem dX8_type_54 : decode cX8_type 54 = .ok (.iadd, 1) := by decide +kernel
theorem dX8_type_55 : decode cX8_type 55 = .ok (.putfield 192, 3) := by decide +kernel
theorem dX8_type_58 : decode cX8_type 58 = .ok (.aload_n 0, 1) := by decide +kernel
theorem dX8_type_59 : decode cX8_type 59 = .ok (.getfield 192, 3) := by decide +kernel
theorem dX8_type_62 : decode cX8_type 62 = .ok (.ireturn, 1) := by decide +kernel
theorem dX8_here_0 : decode cX8_here 0 = .ok (.aload_n 0, 1) := by decide +kernel
theorem dX8_here_1 : decode cX8_here 1 = .ok (.getfield 195, 3) := by decide +kernel
theorem dX8_here_4 : decode cX8_here 4 = .ok (.aload_n 0, 1) := by decide +kernel
theorem dX8_here_5 : decode cX8_here 5 = .ok (.getfield 192, 3) := by decide +kernel
theorem dX8_here_8 : decode cX8_here 8 = .ok (.if_icmp .ge 15, 3) := by decide +kernel
theorem dX8_here_11 : decode cX8_here 11 = .ok (.aload_n 0, 1) := by decide +kernel
theorem dX8_here_12 : decode cX8_here 12 = .ok (.getfield 22, 3) := by decide +kernel
theorem dX8_here_15 : decode cX8_here 15 = .ok (.aload_n 0, 1) := by decide +kernel
theorem dX8_here_16 : decode cX8_here 16 = .ok (.getfield 195, 3) := by decide +kernel
theorem dX8_here_19 : decode cX8_here 19 = .ok (.iaload, 1) := by decide +kernel
theorem dX8_here_20 : decode cX8_here 20 = .ok (.goto 4, 3) := by decide +kernel
theorem dX8_here_23 : decode cX8_here 23 = .ok (.iconst (-1), 1) := by decide +kernel
theorem dX8_here_24 : decode cX8_here 24 = .ok (.ireturn, 1) := by decide +kernel
theorem dX8_skips_0 : decode cX8_skips 0 = .ok (.aload_n 0, 1) := by decide +kernel
theorem dX8_skips_1 : decode cX8_skips 1 = .ok (.invokevirtual 198, 3) := by decide +kernel
theorem dX8_skips_4 : decode cX8_skips 4 = .ok (.iload_n 1, 1) := by decide +kernel
theorem dX8_skips_5 : decode cX8_skips 5 = .ok (.if_icmp .eq 5, 3) := by decide +kernel
theorem dX8_skips_8 : decode cX8_skips 8 = .ok (.iconst 0, 1) := by decide +kernel
theorem dX8_skips_9 : decode cX8_skips 9 = .ok (.ireturn, 1) := by decide +kernel
theorem dX8_skips_10 : decode cX8_skips 10 = .ok (.aload_n 0, 1) := by decide +kernel
theorem dX8_skips_11 : decode cX8_skips 11 = .ok (.dup, 1) := by decide +kernel
theorem dX8_skips_12 : decode cX8_skips 12 = .ok (.getfield 195, 3) := by decide +kernel
theorem dX8_skips_15 : decode cX8_skips 15 = .ok (.iconst 1, 1) := by decide +kernel
theorem dX8_skips_16 : decode cX8_skips 16 = .ok (.iadd, 1) := by decide +kernel
theorem dX8_skips_17 : decode cX8_skips 17 = .ok (.putfield 195, 3) := by decide +kernel
theorem dX8_skips_20 : decode cX8_skips 20 = .ok (.iconst 1, 1) := by decide +kernel
theorem dX8_skips_21 : decode cX8_skips 21 = .ok (.ireturn, 1) := by decide +kernel
theorem dX8_isWord_0 : decode cX8_isWord 0 = .ok (.aload_n 0, 1) := by decide +kernel
theorem dX8_isWord_1 : decode cX8_isWord 1 = .ok (.getfield 51, 3) := by decide +kernel
theorem dX8_isWord_4 : decode cX8_isWord 4 = .ok (.bipush 6, 2) := by decide +kernel
theorem dX8_isWord_6 : decode cX8_isWord 6 = .ok (.aload_n 0, 1) := by decide +kernel
theorem dX8_isWord_7 : decode cX8_isWord 7 = .ok (.getfield 201, 3) := by decide +kernel
theorem dX8_isWord_10 : decode cX8_isWord 10 = .ok (.imul, 1) := by decide +kernel
theorem dX8_isWord_11 : decode cX8_isWord 11 = .ok (.iload_n 1, 1) := by decide +kernel
theorem dX8_isWord_12 : decode cX8_isWord 12 = .ok (.iastore, 1) := by decide +kernel
theorem dX8_isWord_13 : decode cX8_isWord 13 = .ok (.iconst 0, 1) := by decide +kernel
theorem dX8_isWord_14 : decode cX8_isWord 14 = .ok (.istore_n 3, 1) := by decide +kernel
theorem dX8_isWord_15 : decode cX8_isWord 15 = .ok (.iload_n 3, 1) := by decide +kernel
theorem dX8_isWord_16 : decode cX8_isWord 16 = .ok (.aload_n 2, 1) := by decide +kernel
theorem dX8_isWord_17 : decode cX8_isWord 17 = .ok (.invokevirtual 204, 3) := by decide +kernel
theorem dX8_isWord_20 : decode cX8_isWord 20 = .ok (.if_icmp .ge 23, 3) := by decide +kernel
theorem dX8_isWord_23 : decode cX8_isWord 23 = .ok (.aload_n 0, 1) := by decide +kernel
theorem dX8_isWord_24 : decode cX8_isWord 24 = .ok (.aload_n 2, 1) := by decide +kernel
theorem dX8_isWord_25 : decode cX8_isWord 25 = .ok (.iload_n 3, 1) := by decide +kernel
theorem dX8_isWord_26 : decode cX8_isWord 26 = .ok (.invokevirtual 208, 3) := by decide +kernel
theorem dX8_isWord_29 : decode cX8_isWord 29 = .ok (.invokevirtual 212, 3) := by decide +kernel
theorem dX8_isWord_32 : decode cX8_isWord 32 = .ok (.ifCond .ne 5, 3) := by decide +kernel
theorem dX8_isWord_35 : decode cX8_isWord 35 = .ok (.iconst 0, 1) := by decide +kernel
theorem dX8_isWord_36 : decode cX8_isWord 36 = .ok (.ireturn, 1) := by decide +kernel
theorem dX8_isWord_37 : decode cX8_isWord 37 = .ok (.iinc 3 1, 3) := by decide +kernel
theorem dX8_isWord_40 : decode cX8_isWord 40 = .ok (.goto (-25), 3) := by decide +kernel
theorem dX8_isWord_43 : decode cX8_isWord 43 = .ok (.iconst 1, 1) := by decide +kernel
theorem dX8_isWord_44 : decode cX8_isWord 44 = .ok (.ireturn, 1) := by decide +kernel
theorem dX8_figures_0 : decode cX8_figures 0 = .ok (.aload_n 0, 1) := by decide +kernel
theorem dX8_figures_1 : decode cX8_figures 1 = .ok (.bipush 32, 2) := by decide +kernel
theorem dX8_figures_3 : decode cX8_figures 3 = .ok (.invokevirtual 212, 3) := by decide +kernel
theorem dX8_figures_6 : decode cX8_figures 6 = .ok (.ifCond .eq 17, 3) := by decide +kernel
theorem dX8_figures_9 : decode cX8_figures 9 = .ok (.aload_n 0, 1) := by decide +kernel
theorem dX8_figures_10 : decode cX8_figures 10 = .ok (.invokevirtual 198, 3) := by decide +kernel
theorem dX8_figures_13 : decode cX8_figures 13 = .ok (.bipush 48, 2) := by decide +kernel
theorem dX8_figures_15 : decode cX8_figures 15 = .ok (.bipush 57, 2) := by decide +kernel
theorem dX8_figures_17 : decode cX8_figures 17 = .ok (.invokestatic 68, 3) := by decide +kernel
theorem dX8_figures_20 : decode cX8_figures 20 = .ok (.ifCond .ne 5, 3) := by decide +kernel
theorem dX8_figures_23 : decode cX8_figures 23 = .ok (.iconst 0, 1) := by decide +kernel
theorem dX8_figures_24 : decode cX8_figures 24 = .ok (.ireturn, 1) := by decide +kernel
theorem dX8_figures_25 : decode cX8_figures 25 = .ok (.aload_n 0, 1) := by decide +kernel
theorem dX8_figures_26 : decode cX8_figures 26 = .ok (.getfield 51, 3) := by decide +kernel
theorem dX8_figures_29 : decode cX8_figures 29 = .ok (.iload_n 1, 1) := by decide +kernel
theorem dX8_figures_30 : decode cX8_figures 30 = .ok (.iconst 0, 1) := by decide +kernel
theorem dX8_figures_31 : decode cX8_figures 31 = .ok (.iastore, 1) := by decide +kernel
theorem dX8_figures_32 : decode cX8_figures 32 = .ok (.iconst 0, 1) := by decide +kernel
theorem dX8_figures_33 : decode cX8_figures 33 = .ok (.istore_n 3, 1) := by decide +kernel
theorem dX8_figures_34 : decode cX8_figures 34 = .ok (.iload_n 3, 1) := by decide +kernel
theorem dX8_figures_35 : decode cX8_figures 35 = .ok (.iload_n 2, 1) := by decide +kernel
theorem dX8_figures_36 : decode cX8_figures 36 = .ok (.if_icmp .ge 56, 3) := by decide +kernel
theorem dX8_figures_39 : decode cX8_figures 39 = .ok (.aload_n 0, 1) := by decide +kernel
theorem dX8_figures_40 : decode cX8_figures 40 = .ok (.invokevirtual 198, 3) := by decide +kernel
theorem dX8_figures_43 : decode cX8_figures 43 = .ok (.bipush 48, 2) := by decide +kernel
theorem dX8_figures_45 : decode cX8_figures 45 = .ok (.bipush 57, 2) := by decide +kernel
theorem dX8_figures_47 : decode cX8_figures 47 = .ok (.invokestatic 68, 3) := by decide +kernel
theorem dX8_figures_50 : decode cX8_figures 50 = .ok (.ifCond .eq 42, 3) := by decide +kernel
theorem dX8_figures_53 : decode cX8_figures 53 = .ok (.aload_n 0, 1) := by decide +kernel
theorem dX8_figures_54 : decode cX8_figures 54 = .ok (.getfield 51, 3) := by decide +kernel
theorem dX8_figures_57 : decode cX8_figures 57 = .ok (.iload_n 1, 1) := by decide +kernel
theorem dX8_figures_58 : decode cX8_figures 58 = .ok (.bipush 10, 2) := by decide +kernel
theorem dX8_figures_60 : decode cX8_figures 60 = .ok (.aload_n 0, 1) := by decide +kernel
theorem dX8_figures_61 : decode cX8_figures 61 = .ok (.getfield 51, 3) := by decide +kernel
theorem dX8_figures_64 : decode cX8_figures 64 = .ok (.iload_n 1, 1) := by decide +kernel
theorem dX8_figures_65 : decode cX8_figures 65 = .ok (.iaload, 1) := by decide +kernel
theorem dX8_figures_66 : decode cX8_figures 66 = .ok (.imul, 1) := by decide +kernel
theorem dX8_figures_67 : decode cX8_figures 67 = .ok (.aload_n 0, 1) := by decide +kernel
theorem dX8_figures_68 : decode cX8_figures 68 = .ok (.invokevirtual 198, 3) := by decide +kernel
theorem dX8_figures_71 : decode cX8_figures 71 = .ok (.iadd, 1) := by decide +kernel
theorem dX8_figures_72 : decode cX8_figures 72 = .ok (.bipush 48, 2) := by decide +kernel
theorem dX8_figures_74 : decode cX8_figures 74 = .ok (.isub, 1) := by decide +kernel
theorem dX8_figures_75 : decode cX8_figures 75 = .ok (.iastore, 1) := by decide +kernel
theorem dX8_figures_76 : decode cX8_figures 76 = .ok (.aload_n 0, 1) := by decide +kernel
theorem dX8_figures_77 : decode cX8_figures 77 = .ok (.dup, 1) := by decide +kernel
theorem dX8_figures_78 : decode cX8_figures 78 = .ok (.getfield 195, 3) := by decide +kernel
theorem dX8_figures_81 : decode cX8_figures 81 = .ok (.iconst 1, 1) := by decide +kernel
theorem dX8_figures_82 : decode cX8_figures 82 = .ok (.iadd, 1) := by decide +kernel
theorem dX8_figures_83 : decode cX8_figures 83 = .ok (.putfield 195, 3) := by decide +kernel
theorem dX8_figures_86 : decode cX8_figures 86 = .ok (.iinc 3 1, 3) := by decide +kernel
theorem dX8_figures_89 : decode cX8_figures 89 = .ok (.goto (-55), 3) := by decide +kernel
theorem dX8_figures_92 : decode cX8_figures 92 = .ok (.iconst 1, 1) := by decide +kernel
theorem dX8_figures_93 : decode cX8_figures 93 = .ok (.ireturn, 1) := by decide +kernel
theorem dX8_withD_0 : decode cX8_withD 0 = .ok (.aload_n 0, 1) := by decide +kernel
theorem dX8_withD_1 : decode cX8_withD 1 = .ok (.bipush 97, 2) := by decide +kernel
theorem dX8_withD_3 : decode cX8_withD 3 = .ok (.invokevirtual 212, 3) := by decide +kernel
theorem dX8_withD_6 : decode cX8_withD 6 = .ok (.ifCond .eq 11, 3) := by decide +kernel
theorem dX8_withD_9 : decode cX8_withD 9 = .ok (.aload_n 0, 1) := by decide +kernel
theorem dX8_withD_10 : decode cX8_withD 10 = .ok (.iconst 4, 1) := by decide +kernel
theorem dX8_withD_11 : decode cX8_withD 11 = .ok (.ldc 215, 2) := by decide +kernel
theorem dX8_withD_13 : decode cX8_withD 13 = .ok (.invokevirtual 217, 3) := by decide +kernel
theorem dX8_withD_16 : decode cX8_withD 16 = .ok (.ireturn, 1) := by decide +kernel
theorem dX8_withD_17 : decode cX8_withD 17 = .ok (.aload_n 0, 1) := by decide +kernel
theorem dX8_withD_18 : decode cX8_withD 18 = .ok (.bipush 6, 2) := by decide +kernel
theorem dX8_withD_20 : decode cX8_withD 20 = .ok (.ldc 221, 2) := by decide +kernel
theorem dX8_withD_22 : decode cX8_withD 22 = .ok (.invokevirtual 217, 3) := by decide +kernel
theorem dX8_withD_25 : decode cX8_withD 25 = .ok (.ifCond .eq 27, 3) := by decide +kernel
theorem dX8_withD_28 : decode cX8_withD 28 = .ok (.aload_n 0, 1) := by decide +kernel
theorem dX8_withD_29 : decode cX8_withD 29 = .ok (.iload_n 1, 1) := by decide +kernel
theorem dX8_withD_30 : decode cX8_withD 30 = .ok (.iconst 1, 1) := by decide +kernel
theorem dX8_withD_31 : decode cX8_withD 31 = .ok (.invokevirtual 223, 3) := by decide +kernel
theorem dX8_withD_34 : decode cX8_withD 34 = .ok (.ifCond .eq 18, 3) := by decide +kernel
theorem dX8_withD_37 : decode cX8_withD 37 = .ok (.aload_n 0, 1) := by decide +kernel
theorem dX8_withD_38 : decode cX8_withD 38 = .ok (.iload_n 1, 1) := by decide +kernel
theorem dX8_withD_39 : decode cX8_withD 39 = .ok (.iconst 1, 1) := by decide +kernel
theorem dX8_withD_40 : decode cX8_withD 40 = .ok (.iadd, 1) := by decide +kernel
theorem dX8_withD_41 : decode cX8_withD 41 = .ok (.iconst 4, 1) := by decide +kernel
theorem dX8_withD_42 : decode cX8_withD 42 = .ok (.invokevirtual 223, 3) := by decide +kernel
theorem dX8_withD_45 : decode cX8_withD 45 = .ok (.ifCond .eq 7, 3) := by decide +kernel
theorem dX8_withD_48 : decode cX8_withD 48 = .ok (.iconst 1, 1) := by decide +kernel
theorem dX8_withD_49 : decode cX8_withD 49 = .ok (.goto 4, 3) := by decide +kernel
theorem dX8_withD_52 : decode cX8_withD 52 = .ok (.iconst 0, 1) := by decide +kernel
theorem dX8_withD_53 : decode cX8_withD 53 = .ok (.ireturn, 1) := by decide +kernel
theorem dX8_withT_0 : decode cX8_withT 0 = .ok (.aload_n 0, 1) := by decide +kernel
theorem dX8_withT_1 : decode cX8_withT 1 = .ok (.iconst 2, 1) := by decide +kernel
theorem dX8_withT_2 : decode cX8_withT 2 = .ok (.ldc 226, 2) := by decide +kernel
theorem dX8_withT_4 : decode cX8_withT 4 = .ok (.invokevirtual 217, 3) := by decide +kernel
theorem dX8_withT_7 : decode cX8_withT 7 = .ok (.ifCond .ne 5, 3) := by decide +kernel
theorem dX8_withT_10 : decode cX8_withT 10 = .ok (.iconst 0, 1) := by decide +kernel
theorem dX8_withT_11 : decode cX8_withT 11 = .ok (.ireturn, 1) := by decide +kernel
theorem dX8_withT_12 : decode cX8_withT 12 = .ok (.aload_n 0, 1) := by decide +kernel
theorem dX8_withT_13 : decode cX8_withT 13 = .ok (.bipush 114, 2) := by decide +kernel
theorem dX8_withT_15 : decode cX8_withT 15 = .ok (.invokevirtual 212, 3) := by decide +kernel
theorem dX8_withT_18 : decode cX8_withT 18 = .ok (.ifCond .eq 28, 3) := by decide +kernel
theorem dX8_withT_21 : decode cX8_withT 21 = .ok (.aload_n 0, 1) := by decide +kernel
theorem dX8_withT_22 : decode cX8_withT 22 = .ok (.iconst 1, 1) := by decide +kernel
theorem dX8_withT_23 : decode cX8_withT 23 = .ok (.ldc 228, 2) := by decide +kernel
theorem dX8_withT_25 : decode cX8_withT 25 = .ok (.invokevirtual 217, 3) := by decide +kernel
theorem dX8_withT_28 : decode cX8_withT 28 = .ok (.ifCond .eq 16, 3) := by decide +kernel
theorem dX8_withT_31 : decode cX8_withT 31 = .ok (.aload_n 0, 1) := by decide +kernel
theorem dX8_withT_32 : decode cX8_withT 32 = .ok (.iload_n 1, 1) := by decide +kernel
theorem dX8_withT_33 : decode cX8_withT 33 = .ok (.iconst 4, 1) := by decide +kernel
theorem dX8_withT_34 : decode cX8_withT 34 = .ok (.invokevirtual 223, 3) := by decide +kernel
theorem dX8_withT_37 : decode cX8_withT 37 = .ok (.ifCond .eq 7, 3) := by decide +kernel
theorem dX8_withT_40 : decode cX8_withT 40 = .ok (.iconst 1, 1) := by decide +kernel
theorem dX8_withT_41 : decode cX8_withT 41 = .ok (.goto 4, 3) := by decide +kernel
theorem dX8_withT_44 : decode cX8_withT 44 = .ok (.iconst 0, 1) := by decide +kernel
theorem dX8_withT_45 : decode cX8_withT 45 = .ok (.ireturn, 1) := by decide +kernel
theorem dX8_withT_46 : decode cX8_withT 46 = .ok (.aload_n 0, 1) := by decide +kernel
theorem dX8_withT_47 : decode cX8_withT 47 = .ok (.iload_n 1, 1) := by decide +kernel
theorem dX8_withT_48 : decode cX8_withT 48 = .ok (.iconst 1, 1) := by decide +kernel
theorem dX8_withT_49 : decode cX8_withT 49 = .ok (.invokevirtual 223, 3) := by decide +kernel
theorem dX8_withT_52 : decode cX8_withT 52 = .ok (.ifCond .eq 51, 3) := by decide +kernel
theorem dX8_withT_55 : decode cX8_withT 55 = .ok (.aload_n 0, 1) := by decide +kernel
theorem dX8_withT_56 : decode cX8_withT 56 = .ok (.iload_n 1, 1) := by decide +kernel
theorem dX8_withT_57 : decode cX8_withT 57 = .ok (.iconst 1, 1) := by decide +kernel
theorem dX8_withT_58 : decode cX8_withT 58 = .ok (.iadd, 1) := by decide +kernel
theorem dX8_withT_59 : decode cX8_withT 59 = .ok (.iconst 1, 1) := by decide +kernel
theorem dX8_withT_60 : decode cX8_withT 60 = .ok (.invokevirtual 223, 3) := by decide +kernel
theorem dX8_withT_63 : decode cX8_withT 63 = .ok (.ifCond .eq 40, 3) := by decide +kernel
theorem dX8_withT_66 : decode cX8_withT 66 = .ok (.aload_n 0, 1) := by decide +kernel
theorem dX8_withT_67 : decode cX8_withT 67 = .ok (.iload_n 1, 1) := by decide +kernel
theorem dX8_withT_68 : decode cX8_withT 68 = .ok (.iconst 2, 1) := by decide +kernel
theorem dX8_withT_69 : decode cX8_withT 69 = .ok (.iadd, 1) := by decide +kernel
theorem dX8_withT_70 : decode cX8_withT 70 = .ok (.iconst 1, 1) := by decide +kernel
theorem dX8_withT_71 : decode cX8_withT 71 = .ok (.invokevirtual 223, 3) := by decide +kernel
theorem dX8_withT_74 : decode cX8_withT 74 = .ok (.ifCond .eq 29, 3) := by decide +kernel
theorem dX8_withT_77 : decode cX8_withT 77 = .ok (.aload_n 0, 1) := by decide +kernel
theorem dX8_withT_78 : decode cX8_withT 78 = .ok (.iload_n 1, 1) := by decide +kernel
theorem dX8_withT_79 : decode cX8_withT 79 = .ok (.iconst 3, 1) := by decide +kernel
theorem dX8_withT_80 : decode cX8_withT 80 = .ok (.iadd, 1) := by decide +kernel
theorem dX8_withT_81 : decode cX8_withT 81 = .ok (.iconst 2, 1) := by decide +kernel
theorem dX8_withT_82 : decode cX8_withT 82 = .ok (.invokevirtual 223, 3) := by decide +kernel
theorem dX8_withT_85 : decode cX8_withT 85 = .ok (.ifCond .eq 18, 3) := by decide +kernel
theorem dX8_withT_88 : decode cX8_withT 88 = .ok (.aload_n 0, 1) := by decide +kernel
theorem dX8_withT_89 : decode cX8_withT 89 = .ok (.iload_n 1, 1) := by decide +kernel
theorem dX8_withT_90 : decode cX8_withT 90 = .ok (.iconst 4, 1) := by decide +kernel
theorem dX8_withT_91 : decode cX8_withT 91 = .ok (.iadd, 1) := by decide +kernel
theorem dX8_withT_92 : decode cX8_withT 92 = .ok (.iconst 1, 1) := by decide +kernel
theorem dX8_withT_93 : decode cX8_withT 93 = .ok (.invokevirtual 223, 3) := by decide +kernel
theorem dX8_withT_96 : decode cX8_withT 96 = .ok (.ifCond .eq 7, 3) := by decide +kernel
theorem dX8_withT_99 : decode cX8_withT 99 = .ok (.iconst 1, 1) := by decide +kernel
theorem dX8_withT_100 : decode cX8_withT 100 = .ok (.goto 4, 3) := by decide +kernel
theorem dX8_withT_103 : decode cX8_withT 103 = .ok (.iconst 0, 1) := by decide +kernel
theorem dX8_withT_104 : decode cX8_withT 104 = .ok (.ireturn, 1) := by decide +kernel
theorem dX8_commandHere_0 : decode cX8_commandHere 0 = .ok (.bipush 6, 2) := by decide +kernel
theorem dX8_commandHere_2 : decode cX8_commandHere 2 = .ok (.aload_n 0, 1) := by decide +kernel
theorem dX8_commandHere_3 : decode cX8_commandHere 3 = .ok (.getfield 201, 3) := by decide +kernel
theorem dX8_commandHere_6 : decode cX8_commandHere 6 = .ok (.imul, 1) := by decide +kernel
theorem dX8_commandHere_7 : decode cX8_commandHere 7 = .ok (.iconst 1, 1) := by decide +kernel
theorem dX8_commandHere_8 : decode cX8_commandHere 8 = .ok (.iadd, 1) := by decide +kernel
theorem dX8_commandHere_9 : decode cX8_commandHere 9 = .ok (.istore_n 1, 1) := by decide +kernel
theorem dX8_commandHere_10 : decode cX8_commandHere 10 = .ok (.aload_n 0, 1) := by decide +kernel
theorem dX8_commandHere_11 : decode cX8_commandHere 11 = .ok (.bipush 104, 2) := by decide +kernel
theorem dX8_commandHere_13 : decode cX8_commandHere 13 = .ok (.invokevirtual 212, 3) := by decide +kernel
theorem dX8_commandHere_16 : decode cX8_commandHere 16 = .ok (.ifCond .eq 39, 3) := by decide +kernel
theorem dX8_commandHere_19 : decode cX8_commandHere 19 = .ok (.aload_n 0, 1) := by decide +kernel
theorem dX8_commandHere_20 : decode cX8_commandHere 20 = .ok (.iconst 0, 1) := by decide +kernel
theorem dX8_commandHere_21 : decode cX8_commandHere 21 = .ok (.ldc 230, 2) := by decide +kernel
theorem dX8_commandHere_23 : decode cX8_commandHere 23 = .ok (.invokevirtual 217, 3) := by decide +kernel
theorem dX8_commandHere_26 : decode cX8_commandHere 26 = .ok (.ifCond .eq 27, 3) := by decide +kernel
theorem dX8_commandHere_29 : decode cX8_commandHere 29 = .ok (.aload_n 0, 1) := by decide +kernel
theorem dX8_commandHere_30 : decode cX8_commandHere 30 = .ok (.iload_n 1, 1) := by decide +kernel
theorem dX8_commandHere_31 : decode cX8_commandHere 31 = .ok (.iconst 2, 1) := by decide +kernel
theorem dX8_commandHere_32 : decode cX8_commandHere 32 = .ok (.invokevirtual 223, 3) := by decide +kernel
theorem dX8_commandHere_35 : decode cX8_commandHere 35 = .ok (.ifCond .eq 18, 3) := by decide +kernel
theorem dX8_commandHere_38 : decode cX8_commandHere 38 = .ok (.aload_n 0, 1) := by decide +kernel
theorem dX8_commandHere_39 : decode cX8_commandHere 39 = .ok (.iload_n 1, 1) := by decide +kernel
theorem dX8_commandHere_40 : decode cX8_commandHere 40 = .ok (.iconst 1, 1) := by decide +kernel
theorem dX8_commandHere_41 : decode cX8_commandHere 41 = .ok (.iadd, 1) := by decide +kernel
theorem dX8_commandHere_42 : decode cX8_commandHere 42 = .ok (.iconst 2, 1) := by decide +kernel
theorem dX8_commandHere_43 : decode cX8_commandHere 43 = .ok (.invokevirtual 223, 3) := by decide +kernel
theorem dX8_commandHere_46 : decode cX8_commandHere 46 = .ok (.ifCond .eq 7, 3) := by decide +kernel
theorem dX8_commandHere_49 : decode cX8_commandHere 49 = .ok (.iconst 1, 1) := by decide +kernel
theorem dX8_commandHere_50 : decode cX8_commandHere 50 = .ok (.goto 4, 3) := by decide +kernel
theorem dX8_commandHere_53 : decode cX8_commandHere 53 = .ok (.iconst 0, 1) := by decide +kernel
theorem dX8_commandHere_54 : decode cX8_commandHere 54 = .ok (.ireturn, 1) := by decide +kernel
theorem dX8_commandHere_55 : decode cX8_commandHere 55 = .ok (.aload_n 0, 1) := by decide +kernel
theorem dX8_commandHere_56 : decode cX8_commandHere 56 = .ok (.bipush 116, 2) := by decide +kernel
theorem dX8_commandHere_58 : decode cX8_commandHere 58 = .ok (.invokevirtual 212, 3) := by decide +kernel
theorem dX8_commandHere_61 : decode cX8_commandHere 61 = .ok (.ifCond .eq 9, 3) := by decide +kernel
theorem dX8_commandHere_64 : decode cX8_commandHere 64 = .ok (.aload_n 0, 1) := by decide +kernel
theorem dX8_commandHere_65 : decode cX8_commandHere 65 = .ok (.iload_n 1, 1) := by decide +kernel
theorem dX8_commandHere_66 : decode cX8_commandHere 66 = .ok (.invokevirtual 232, 3) := by decide +kernel
theorem dX8_commandHere_69 : decode cX8_commandHere 69 = .ok (.ireturn, 1) := by decide +kernel
theorem dX8_commandHere_70 : decode cX8_commandHere 70 = .ok (.aload_n 0, 1) := by decide +kernel
theorem dX8_commandHere_71 : decode cX8_commandHere 71 = .ok (.bipush 113, 2) := by decide +kernel
theorem dX8_commandHere_73 : decode cX8_commandHere 73 = .ok (.invokevirtual 212, 3) := by decide +kernel
theorem dX8_commandHere_76 : decode cX8_commandHere 76 = .ok (.ifCond .eq 39, 3) := by decide +kernel
theorem dX8_commandHere_79 : decode cX8_commandHere 79 = .ok (.aload_n 0, 1) := by decide +kernel
theorem dX8_commandHere_80 : decode cX8_commandHere 80 = .ok (.iconst 3, 1) := by decide +kernel
theorem dX8_commandHere_81 : decode cX8_commandHere 81 = .ok (.ldc 235, 2) := by decide +kernel
theorem dX8_commandHere_83 : decode cX8_commandHere 83 = .ok (.invokevirtual 217, 3) := by decide +kernel
theorem dX8_commandHere_86 : decode cX8_commandHere 86 = .ok (.ifCond .eq 27, 3) := by decide +kernel
theorem dX8_commandHere_89 : decode cX8_commandHere 89 = .ok (.aload_n 0, 1) := by decide +kernel
theorem dX8_commandHere_90 : decode cX8_commandHere 90 = .ok (.iload_n 1, 1) := by decide +kernel
theorem dX8_commandHere_91 : decode cX8_commandHere 91 = .ok (.iconst 1, 1) := by decide +kernel
theorem dX8_commandHere_92 : decode cX8_commandHere 92 = .ok (.invokevirtual 223, 3) := by decide +kernel
theorem dX8_commandHere_95 : decode cX8_commandHere 95 = .ok (.ifCond .eq 18, 3) := by decide +kernel
theorem dX8_commandHere_98 : decode cX8_commandHere 98 = .ok (.aload_n 0, 1) := by decide +kernel
theorem dX8_commandHere_99 : decode cX8_commandHere 99 = .ok (.iload_n 1, 1) := by decide +kernel
theorem dX8_commandHere_100 : decode cX8_commandHere 100 = .ok (.iconst 1, 1) := by decide +kernel
theorem dX8_commandHere_101 : decode cX8_commandHere 101 = .ok (.iadd, 1) := by decide +kernel
theorem dX8_commandHere_102 : decode cX8_commandHere 102 = .ok (.iconst 2, 1) := by decide +kernel
theorem dX8_commandHere_103 : decode cX8_commandHere 103 = .ok (.invokevirtual 223, 3) := by decide +kernel
theorem dX8_commandHere_106 : decode cX8_commandHere 106 = .ok (.ifCond .eq 7, 3) := by decide +kernel
theorem dX8_commandHere_109 : decode cX8_commandHere 109 = .ok (.iconst 1, 1) := by decide +kernel
theorem dX8_commandHere_110 : decode cX8_commandHere 110 = .ok (.goto 4, 3) := by decide +kernel
theorem dX8_commandHere_113 : decode cX8_commandHere 113 = .ok (.iconst 0, 1) := by decide +kernel
theorem dX8_commandHere_114 : decode cX8_commandHere 114 = .ok (.ireturn, 1) := by decide +kernel
theorem dX8_commandHere_115 : decode cX8_commandHere 115 = .ok (.aload_n 0, 1) := by decide +kernel
theorem dX8_commandHere_116 : decode cX8_commandHere 116 = .ok (.bipush 100, 2) := by decide +kernel
theorem dX8_commandHere_118 : decode cX8_commandHere 118 = .ok (.invokevirtual 212, 3) := by decide +kernel
theorem dX8_commandHere_121 : decode cX8_commandHere 121 = .ok (.ifCond .eq 9, 3) := by decide +kernel
theorem dX8_commandHere_124 : decode cX8_commandHere 124 = .ok (.aload_n 0, 1) := by decide +kernel
theorem dX8_commandHere_125 : decode cX8_commandHere 125 = .ok (.iload_n 1, 1) := by decide +kernel
theorem dX8_commandHere_126 : decode cX8_commandHere 126 = .ok (.invokevirtual 237, 3) := by decide +kernel
theorem dX8_commandHere_129 : decode cX8_commandHere 129 = .ok (.ireturn, 1) := by decide +kernel
theorem dX8_commandHere_130 : decode cX8_commandHere 130 = .ok (.aload_n 0, 1) := by decide +kernel
theorem dX8_commandHere_131 : decode cX8_commandHere 131 = .ok (.bipush 112, 2) := by decide +kernel
theorem dX8_commandHere_133 : decode cX8_commandHere 133 = .ok (.invokevirtual 212, 3) := by decide +kernel
theorem dX8_commandHere_136 : decode cX8_commandHere 136 = .ok (.ifCond .eq 39, 3) := by decide +kernel
theorem dX8_commandHere_139 : decode cX8_commandHere 139 = .ok (.aload_n 0, 1) := by decide +kernel
theorem dX8_commandHere_140 : decode cX8_commandHere 140 = .ok (.iconst 5, 1) := by decide +kernel
theorem dX8_commandHere_141 : decode cX8_commandHere 141 = .ok (.ldc 240, 2) := by decide +kernel
theorem dX8_commandHere_143 : decode cX8_commandHere 143 = .ok (.invokevirtual 217, 3) := by decide +kernel
theorem dX8_commandHere_146 : decode cX8_commandHere 146 = .ok (.ifCond .eq 27, 3) := by decide +kernel
theorem dX8_commandHere_149 : decode cX8_commandHere 149 = .ok (.aload_n 0, 1) := by decide +kernel
theorem dX8_commandHere_150 : decode cX8_commandHere 150 = .ok (.iload_n 1, 1) := by decide +kernel
theorem dX8_commandHere_151 : decode cX8_commandHere 151 = .ok (.iconst 1, 1) := by decide +kernel
theorem dX8_commandHere_152 : decode cX8_commandHere 152 = .ok (.invokevirtual 223, 3) := by decide +kernel
theorem dX8_commandHere_155 : decode cX8_commandHere 155 = .ok (.ifCond .eq 18, 3) := by decide +kernel
theorem dX8_commandHere_158 : decode cX8_commandHere 158 = .ok (.aload_n 0, 1) := by decide +kernel
theorem dX8_commandHere_159 : decode cX8_commandHere 159 = .ok (.iload_n 1, 1) := by decide +kernel
theorem dX8_commandHere_160 : decode cX8_commandHere 160 = .ok (.iconst 1, 1) := by decide +kernel
theorem dX8_commandHere_161 : decode cX8_commandHere 161 = .ok (.iadd, 1) := by decide +kernel
theorem dX8_commandHere_162 : decode cX8_commandHere 162 = .ok (.iconst 4, 1) := by decide +kernel
theorem dX8_commandHere_163 : decode cX8_commandHere 163 = .ok (.invokevirtual 223, 3) := by decide +kernel
theorem dX8_commandHere_166 : decode cX8_commandHere 166 = .ok (.ifCond .eq 7, 3) := by decide +kernel
theorem dX8_commandHere_169 : decode cX8_commandHere 169 = .ok (.iconst 1, 1) := by decide +kernel
theorem dX8_commandHere_170 : decode cX8_commandHere 170 = .ok (.goto 4, 3) := by decide +kernel
theorem dX8_commandHere_173 : decode cX8_commandHere 173 = .ok (.iconst 0, 1) := by decide +kernel
theorem dX8_commandHere_174 : decode cX8_commandHere 174 = .ok (.ireturn, 1) := by decide +kernel
theorem dX8_commandHere_175 : decode cX8_commandHere 175 = .ok (.aload_n 0, 1) := by decide +kernel
theorem dX8_commandHere_176 : decode cX8_commandHere 176 = .ok (.bipush 103, 2) := by decide +kernel
theorem dX8_commandHere_178 : decode cX8_commandHere 178 = .ok (.invokevirtual 212, 3) := by decide +kernel
theorem dX8_commandHere_181 : decode cX8_commandHere 181 = .ok (.ifCond .eq 38, 3) := by decide +kernel
theorem dX8_commandHere_184 : decode cX8_commandHere 184 = .ok (.aload_n 0, 1) := by decide +kernel
theorem dX8_commandHere_185 : decode cX8_commandHere 185 = .ok (.bipush 7, 2) := by decide +kernel
theorem dX8_commandHere_187 : decode cX8_commandHere 187 = .ok (.ldc 242, 2) := by decide +kernel
theorem dX8_commandHere_189 : decode cX8_commandHere 189 = .ok (.invokevirtual 217, 3) := by decide +kernel
theorem dX8_commandHere_192 : decode cX8_commandHere 192 = .ok (.ifCond .eq 27, 3) := by decide +kernel
theorem dX8_commandHere_195 : decode cX8_commandHere 195 = .ok (.aload_n 0, 1) := by decide +kernel
theorem dX8_commandHere_196 : decode cX8_commandHere 196 = .ok (.iload_n 1, 1) := by decide +kernel
theorem dX8_commandHere_197 : decode cX8_commandHere 197 = .ok (.iconst 1, 1) := by decide +kernel
theorem dX8_commandHere_198 : decode cX8_commandHere 198 = .ok (.invokevirtual 223, 3) := by decide +kernel
theorem dX8_commandHere_201 : decode cX8_commandHere 201 = .ok (.ifCond .eq 18, 3) := by decide +kernel
theorem dX8_commandHere_204 : decode cX8_commandHere 204 = .ok (.aload_n 0, 1) := by decide +kernel
theorem dX8_commandHere_205 : decode cX8_commandHere 205 = .ok (.iload_n 1, 1) := by decide +kernel
theorem dX8_commandHere_206 : decode cX8_commandHere 206 = .ok (.iconst 1, 1) := by decide +kernel
theorem dX8_commandHere_207 : decode cX8_commandHere 207 = .ok (.iadd, 1) := by decide +kernel
theorem dX8_commandHere_208 : decode cX8_commandHere 208 = .ok (.iconst 4, 1) := by decide +kernel
theorem dX8_commandHere_209 : decode cX8_commandHere 209 = .ok (.invokevirtual 223, 3) := by decide +kernel
theorem dX8_commandHere_212 : decode cX8_commandHere 212 = .ok (.ifCond .eq 7, 3) := by decide +kernel
theorem dX8_commandHere_215 : decode cX8_commandHere 215 = .ok (.iconst 1, 1) := by decide +kernel
theorem dX8_commandHere_216 : decode cX8_commandHere 216 = .ok (.goto 4, 3) := by decide +kernel
theorem dX8_commandHere_219 : decode cX8_commandHere 219 = .ok (.iconst 0, 1) := by decide +kernel
theorem dX8_commandHere_220 : decode cX8_commandHere 220 = .ok (.ireturn, 1) := by decide +kernel
theorem dX8_isText_0 : decode cX8_isText 0 = .ok (.aload_n 0, 1) := by decide +kernel
theorem dX8_isText_1 : decode cX8_isText 1 = .ok (.iconst 0, 1) := by decide +kernel
theorem dX8_isText_2 : decode cX8_isText 2 = .ok (.putfield 195, 3) := by decide +kernel
theorem dX8_isText_5 : decode cX8_isText 5 = .ok (.aload_n 0, 1) := by decide +kernel
theorem dX8_isText_6 : decode cX8_isText 6 = .ok (.iconst 0, 1) := by decide +kernel
theorem dX8_isText_7 : decode cX8_isText 7 = .ok (.putfield 201, 3) := by decide +kernel
theorem dX8_isText_10 : decode cX8_isText 10 = .ok (.aload_n 0, 1) := by decide +kernel
theorem dX8_isText_11 : decode cX8_isText 11 = .ok (.invokevirtual 244, 3) := by decide +kernel
theorem dX8_isText_14 : decode cX8_isText 14 = .ok (.ifCond .ne 5, 3) := by decide +kernel
theorem dX8_isText_17 : decode cX8_isText 17 = .ok (.iconst 0, 1) := by decide +kernel
theorem dX8_isText_18 : decode cX8_isText 18 = .ok (.ireturn, 1) := by decide +kernel
theorem dX8_isText_19 : decode cX8_isText 19 = .ok (.aload_n 0, 1) := by decide +kernel
theorem dX8_isText_20 : decode cX8_isText 20 = .ok (.dup, 1) := by decide +kernel
theorem dX8_isText_21 : decode cX8_isText 21 = .ok (.getfield 201, 3) := by decide +kernel
theorem dX8_isText_24 : decode cX8_isText 24 = .ok (.iconst 1, 1) := by decide +kernel
theorem dX8_isText_25 : decode cX8_isText 25 = .ok (.iadd, 1) := by decide +kernel
theorem dX8_isText_26 : decode cX8_isText 26 = .ok (.putfield 201, 3) := by decide +kernel
theorem dX8_isText_29 : decode cX8_isText 29 = .ok (.aload_n 0, 1) := by decide +kernel
theorem dX8_isText_30 : decode cX8_isText 30 = .ok (.bipush 59, 2) := by decide +kernel
theorem dX8_isText_32 : decode cX8_isText 32 = .ok (.invokevirtual 212, 3) := by decide +kernel
theorem dX8_isText_35 : decode cX8_isText 35 = .ok (.ifCond .ne (-25), 3) := by decide +kernel
theorem dX8_isText_38 : decode cX8_isText 38 = .ok (.aload_n 0, 1) := by decide +kernel
theorem dX8_isText_39 : decode cX8_isText 39 = .ok (.getfield 195, 3) := by decide +kernel
theorem dX8_isText_42 : decode cX8_isText 42 = .ok (.aload_n 0, 1) := by decide +kernel
theorem dX8_isText_43 : decode cX8_isText 43 = .ok (.getfield 192, 3) := by decide +kernel
theorem dX8_isText_46 : decode cX8_isText 46 = .ok (.if_icmp .ne 7, 3) := by decide +kernel
theorem dX8_isText_49 : decode cX8_isText 49 = .ok (.iconst 1, 1) := by decide +kernel
theorem dX8_isText_50 : decode cX8_isText 50 = .ok (.goto 4, 3) := by decide +kernel
theorem dX8_isText_53 : decode cX8_isText 53 = .ok (.iconst 0, 1) := by decide +kernel
theorem dX8_isText_54 : decode cX8_isText 54 = .ok (.ireturn, 1) := by decide +kernel
theorem dX8_carries_0 : decode cX8_carries 0 = .ok (.aload_n 0, 1) := by decide +kernel
theorem dX8_carries_1 : decode cX8_carries 1 = .ok (.getfield 51, 3) := by decide +kernel
theorem dX8_carries_4 : decode cX8_carries 4 = .ok (.iload_n 1, 1) := by decide +kernel
theorem dX8_carries_5 : decode cX8_carries 5 = .ok (.iconst 1, 1) := by decide +kernel
theorem dX8_carries_6 : decode cX8_carries 6 = .ok (.iadd, 1) := by decide +kernel
theorem dX8_carries_7 : decode cX8_carries 7 = .ok (.iaload, 1) := by decide +kernel
theorem dX8_carries_8 : decode cX8_carries 8 = .ok (.istore_n 2, 1) := by decide +kernel
theorem dX8_carries_9 : decode cX8_carries 9 = .ok (.aload_n 0, 1) := by decide +kernel
theorem dX8_carries_10 : decode cX8_carries 10 = .ok (.getfield 51, 3) := by decide +kernel
theorem dX8_carries_13 : decode cX8_carries 13 = .ok (.iload_n 1, 1) := by decide +kernel
theorem dX8_carries_14 : decode cX8_carries 14 = .ok (.iconst 2, 1) := by decide +kernel
theorem dX8_carries_15 : decode cX8_carries 15 = .ok (.iadd, 1) := by decide +kernel
theorem dX8_carries_16 : decode cX8_carries 16 = .ok (.iaload, 1) := by decide +kernel
theorem dX8_carries_17 : decode cX8_carries 17 = .ok (.istore_n 3, 1) := by decide +kernel
theorem dX8_carries_18 : decode cX8_carries 18 = .ok (.aload_n 0, 1) := by decide +kernel
theorem dX8_carries_19 : decode cX8_carries 19 = .ok (.getfield 51, 3) := by decide +kernel
theorem dX8_carries_22 : decode cX8_carries 22 = .ok (.iload_n 1, 1) := by decide +kernel
theorem dX8_carries_23 : decode cX8_carries 23 = .ok (.iaload, 1) := by decide +kernel
theorem dX8_carries_24 : decode cX8_carries 24 = .ok (.tableswitch 114 0 6 #[44, 51, 57, 88, 95, 100, 107], 44) := by decide +kernel
theorem dX8_carries_68 : decode cX8_carries 68 = .ok (.aload_n 0, 1) := by decide +kernel
theorem dX8_carries_69 : decode cX8_carries 69 = .ok (.iload_n 2, 1) := by decide +kernel
theorem dX8_carries_70 : decode cX8_carries 70 = .ok (.iload_n 3, 1) := by decide +kernel
theorem dX8_carries_71 : decode cX8_carries 71 = .ok (.invokevirtual 248, 3) := by decide +kernel
theorem dX8_carries_74 : decode cX8_carries 74 = .ok (.ireturn, 1) := by decide +kernel
theorem dX8_carries_75 : decode cX8_carries 75 = .ok (.aload_n 0, 1) := by decide +kernel
theorem dX8_carries_76 : decode cX8_carries 76 = .ok (.iload_n 2, 1) := by decide +kernel
theorem dX8_carries_77 : decode cX8_carries 77 = .ok (.invokevirtual 251, 3) := by decide +kernel
theorem dX8_carries_80 : decode cX8_carries 80 = .ok (.ireturn, 1) := by decide +kernel
theorem dX8_carries_81 : decode cX8_carries 81 = .ok (.aload_n 0, 1) := by decide +kernel
theorem dX8_carries_82 : decode cX8_carries 82 = .ok (.iload_n 2, 1) := by decide +kernel
theorem dX8_carries_83 : decode cX8_carries 83 = .ok (.iload_n 3, 1) := by decide +kernel
theorem dX8_carries_84 : decode cX8_carries 84 = .ok (.aload_n 0, 1) := by decide +kernel
theorem dX8_carries_85 : decode cX8_carries 85 = .ok (.getfield 51, 3) := by decide +kernel
theorem dX8_carries_88 : decode cX8_carries 88 = .ok (.iload_n 1, 1) := by decide +kernel
theorem dX8_carries_89 : decode cX8_carries 89 = .ok (.iconst 3, 1) := by decide +kernel
theorem dX8_carries_90 : decode cX8_carries 90 = .ok (.iadd, 1) := by decide +kernel
theorem dX8_carries_91 : decode cX8_carries 91 = .ok (.iaload, 1) := by decide +kernel
theorem dX8_carries_92 : decode cX8_carries 92 = .ok (.aload_n 0, 1) := by decide +kernel
theorem dX8_carries_93 : decode cX8_carries 93 = .ok (.getfield 51, 3) := by decide +kernel
theorem dX8_carries_96 : decode cX8_carries 96 = .ok (.iload_n 1, 1) := by decide +kernel
theorem dX8_carries_97 : decode cX8_carries 97 = .ok (.iconst 4, 1) := by decide +kernel
theorem dX8_carries_98 : decode cX8_carries 98 = .ok (.iadd, 1) := by decide +kernel
theorem dX8_carries_99 : decode cX8_carries 99 = .ok (.iaload, 1) := by decide +kernel
theorem dX8_carries_100 : decode cX8_carries 100 = .ok (.aload_n 0, 1) := by decide +kernel
theorem dX8_carries_101 : decode cX8_carries 101 = .ok (.getfield 51, 3) := by decide +kernel
theorem dX8_carries_104 : decode cX8_carries 104 = .ok (.iload_n 1, 1) := by decide +kernel
theorem dX8_carries_105 : decode cX8_carries 105 = .ok (.iconst 5, 1) := by decide +kernel
theorem dX8_carries_106 : decode cX8_carries 106 = .ok (.iadd, 1) := by decide +kernel
theorem dX8_carries_107 : decode cX8_carries 107 = .ok (.iaload, 1) := by decide +kernel
theorem dX8_carries_108 : decode cX8_carries 108 = .ok (.invokevirtual 254, 3) := by decide +kernel
theorem dX8_carries_111 : decode cX8_carries 111 = .ok (.ireturn, 1) := by decide +kernel
theorem dX8_carries_112 : decode cX8_carries 112 = .ok (.aload_n 0, 1) := by decide +kernel
theorem dX8_carries_113 : decode cX8_carries 113 = .ok (.iload_n 2, 1) := by decide +kernel
theorem dX8_carries_114 : decode cX8_carries 114 = .ok (.iload_n 3, 1) := by decide +kernel
theorem dX8_carries_115 : decode cX8_carries 115 = .ok (.invokevirtual 257, 3) := by decide +kernel
theorem dX8_carries_118 : decode cX8_carries 118 = .ok (.ireturn, 1) := by decide +kernel
theorem dX8_carries_119 : decode cX8_carries 119 = .ok (.aload_n 0, 1) := by decide +kernel
theorem dX8_carries_120 : decode cX8_carries 120 = .ok (.invokevirtual 260, 3) := by decide +kernel
theorem dX8_carries_123 : decode cX8_carries 123 = .ok (.ireturn, 1) := by decide +kernel
theorem dX8_carries_124 : decode cX8_carries 124 = .ok (.aload_n 0, 1) := by decide +kernel
theorem dX8_carries_125 : decode cX8_carries 125 = .ok (.iload_n 2, 1) := by decide +kernel
theorem dX8_carries_126 : decode cX8_carries 126 = .ok (.iload_n 3, 1) := by decide +kernel
theorem dX8_carries_127 : decode cX8_carries 127 = .ok (.invokevirtual 263, 3) := by decide +kernel
theorem dX8_carries_130 : decode cX8_carries 130 = .ok (.ireturn, 1) := by decide +kernel
theorem dX8_carries_131 : decode cX8_carries 131 = .ok (.aload_n 0, 1) := by decide +kernel
theorem dX8_carries_132 : decode cX8_carries 132 = .ok (.iload_n 2, 1) := by decide +kernel
theorem dX8_carries_133 : decode cX8_carries 133 = .ok (.iload_n 3, 1) := by decide +kernel
theorem dX8_carries_134 : decode cX8_carries 134 = .ok (.invokevirtual 266, 3) := by decide +kernel
theorem dX8_carries_137 : decode cX8_carries 137 = .ok (.ireturn, 1) := by decide +kernel
theorem dX8_carries_138 : decode cX8_carries 138 = .ok (.aload_n 0, 1) := by decide +kernel
theorem dX8_carries_139 : decode cX8_carries 139 = .ok (.iload_n 2, 1) := by decide +kernel
theorem dX8_carries_140 : decode cX8_carries 140 = .ok (.iload_n 3, 1) := by decide +kernel
theorem dX8_carries_141 : decode cX8_carries 141 = .ok (.invokevirtual 269, 3) := by decide +kernel
theorem dX8_carries_144 : decode cX8_carries 144 = .ok (.ireturn, 1) := by decide +kernel
theorem dX8_execute_0 : decode cX8_execute 0 = .ok (.aload_n 0, 1) := by decide +kernel
theorem dX8_execute_1 : decode cX8_execute 1 = .ok (.invokevirtual 272, 3) := by decide +kernel
theorem dX8_execute_4 : decode cX8_execute 4 = .ok (.istore_n 1, 1) := by decide +kernel
theorem dX8_execute_5 : decode cX8_execute 5 = .ok (.iload_n 1, 1) := by decide +kernel
theorem dX8_execute_6 : decode cX8_execute 6 = .ok (.ifCond .ne 11, 3) := by decide +kernel
theorem dX8_execute_9 : decode cX8_execute 9 = .ok (.aload_n 0, 1) := by decide +kernel
theorem dX8_execute_10 : decode cX8_execute 10 = .ok (.aload_n 0, 1) := by decide +kernel
theorem dX8_execute_11 : decode cX8_execute 11 = .ok (.getfield 195, 3) := by decide +kernel
theorem dX8_execute_14 : decode cX8_execute 14 = .ok (.putfield 25, 3) := by decide +kernel
theorem dX8_execute_17 : decode cX8_execute 17 = .ok (.aload_n 0, 1) := by decide +kernel
theorem dX8_execute_18 : decode cX8_execute 18 = .ok (.iconst 0, 1) := by decide +kernel
theorem dX8_execute_19 : decode cX8_execute 19 = .ok (.putfield 192, 3) := by decide +kernel
theorem dX8_execute_22 : decode cX8_execute 22 = .ok (.aload_n 0, 1) := by decide +kernel
theorem dX8_execute_23 : decode cX8_execute 23 = .ok (.iload_n 1, 1) := by decide +kernel
theorem dX8_execute_24 : decode cX8_execute 24 = .ok (.ifCond .eq 7, 3) := by decide +kernel
theorem dX8_execute_27 : decode cX8_execute 27 = .ok (.iconst 0, 1) := by decide +kernel
theorem dX8_execute_28 : decode cX8_execute 28 = .ok (.goto 4, 3) := by decide +kernel
theorem dX8_execute_31 : decode cX8_execute 31 = .ok (.iconst 1, 1) := by decide +kernel
theorem dX8_execute_32 : decode cX8_execute 32 = .ok (.invokevirtual 89, 3) := by decide +kernel
theorem dX8_execute_35 : decode cX8_execute 35 = .ok (.ifCond .eq 5, 3) := by decide +kernel
theorem dX8_execute_38 : decode cX8_execute 38 = .ok (.iconst 0, 1) := by decide +kernel
theorem dX8_execute_39 : decode cX8_execute 39 = .ok (.ireturn, 1) := by decide +kernel
theorem dX8_execute_40 : decode cX8_execute 40 = .ok (.aload_n 0, 1) := by decide +kernel
theorem dX8_execute_41 : decode cX8_execute 41 = .ok (.getfield 7, 3) := by decide +kernel
theorem dX8_execute_44 : decode cX8_execute 44 = .ok (.iconst 0, 1) := by decide +kernel
theorem dX8_execute_45 : decode cX8_execute 45 = .ok (.aload_n 0, 1) := by decide +kernel
theorem dX8_execute_46 : decode cX8_execute 46 = .ok (.getfield 19, 3) := by decide +kernel
theorem dX8_execute_49 : decode cX8_execute 49 = .ok (.iconst 0, 1) := by decide +kernel
theorem dX8_execute_50 : decode cX8_execute 50 = .ok (.invokestatic 64, 3) := by decide +kernel
theorem dX8_execute_53 : decode cX8_execute 53 = .ok (.aload_n 0, 1) := by decide +kernel
theorem dX8_execute_54 : decode cX8_execute 54 = .ok (.iconst 1, 1) := by decide +kernel
theorem dX8_execute_55 : decode cX8_execute 55 = .ok (.putfield 57, 3) := by decide +kernel
theorem dX8_execute_58 : decode cX8_execute 58 = .ok (.iconst 0, 1) := by decide +kernel
theorem dX8_execute_59 : decode cX8_execute 59 = .ok (.istore_n 2, 1) := by decide +kernel
theorem dX8_execute_60 : decode cX8_execute 60 = .ok (.iconst 0, 1) := by decide +kernel
theorem dX8_execute_61 : decode cX8_execute 61 = .ok (.istore_n 3, 1) := by decide +kernel
theorem dX8_execute_62 : decode cX8_execute 62 = .ok (.iload_n 2, 1) := by decide +kernel
theorem dX8_execute_63 : decode cX8_execute 63 = .ok (.aload_n 0, 1) := by decide +kernel
theorem dX8_execute_64 : decode cX8_execute 64 = .ok (.getfield 201, 3) := by decide +kernel
theorem dX8_execute_67 : decode cX8_execute 67 = .ok (.if_icmp .ge 32, 3) := by decide +kernel
theorem dX8_execute_70 : decode cX8_execute 70 = .ok (.aload_n 0, 1) := by decide +kernel
theorem dX8_execute_71 : decode cX8_execute 71 = .ok (.getfield 54, 3) := by decide +kernel
theorem dX8_execute_74 : decode cX8_execute 74 = .ok (.ifCond .ne 25, 3) := by decide +kernel
theorem dX8_execute_77 : decode cX8_execute 77 = .ok (.aload_n 0, 1) := by decide +kernel
theorem dX8_execute_78 : decode cX8_execute 78 = .ok (.bipush 6, 2) := by decide +kernel
theorem dX8_execute_80 : decode cX8_execute 80 = .ok (.iload_n 2, 1) := by decide +kernel
theorem dX8_execute_81 : decode cX8_execute 81 = .ok (.imul, 1) := by decide +kernel
theorem dX8_execute_82 : decode cX8_execute 82 = .ok (.invokevirtual 275, 3) := by decide +kernel
theorem dX8_execute_85 : decode cX8_execute 85 = .ok (.istore_n 3, 1) := by decide +kernel
theorem dX8_execute_86 : decode cX8_execute 86 = .ok (.aload_n 0, 1) := by decide +kernel
theorem dX8_execute_87 : decode cX8_execute 87 = .ok (.getfield 54, 3) := by decide +kernel
theorem dX8_execute_90 : decode cX8_execute 90 = .ok (.ifCond .ne (-28), 3) := by decide +kernel
theorem dX8_execute_93 : decode cX8_execute 93 = .ok (.iinc 2 1, 3) := by decide +kernel
theorem dX8_execute_96 : decode cX8_execute 96 = .ok (.goto (-34), 3) := by decide +kernel
theorem dX8_execute_99 : decode cX8_execute 99 = .ok (.aload_n 0, 1) := by decide +kernel
theorem dX8_execute_100 : decode cX8_execute 100 = .ok (.iconst 0, 1) := by decide +kernel
theorem dX8_execute_101 : decode cX8_execute 101 = .ok (.putfield 57, 3) := by decide +kernel
theorem dX8_execute_104 : decode cX8_execute 104 = .ok (.aload_n 0, 1) := by decide +kernel
theorem dX8_execute_105 : decode cX8_execute 105 = .ok (.getfield 54, 3) := by decide +kernel
theorem dX8_execute_108 : decode cX8_execute 108 = .ok (.ifCond .le 36, 3) := by decide +kernel
theorem dX8_execute_111 : decode cX8_execute 111 = .ok (.aload_n 0, 1) := by decide +kernel
theorem dX8_execute_112 : decode cX8_execute 112 = .ok (.getfield 19, 3) := by decide +kernel
theorem dX8_execute_115 : decode cX8_execute 115 = .ok (.iconst 0, 1) := by decide +kernel
theorem dX8_execute_116 : decode cX8_execute 116 = .ok (.aload_n 0, 1) := by decide +kernel
theorem dX8_execute_117 : decode cX8_execute 117 = .ok (.getfield 7, 3) := by decide +kernel
theorem dX8_execute_120 : decode cX8_execute 120 = .ok (.iconst 0, 1) := by decide +kernel
theorem dX8_execute_121 : decode cX8_execute 121 = .ok (.invokestatic 64, 3) := by decide +kernel
theorem dX8_execute_124 : decode cX8_execute 124 = .ok (.aload_n 0, 1) := by decide +kernel
theorem dX8_execute_125 : decode cX8_execute 125 = .ok (.iload_n 2, 1) := by decide +kernel
theorem dX8_execute_126 : decode cX8_execute 126 = .ok (.putfield 29, 3) := by decide +kernel
theorem dX8_execute_129 : decode cX8_execute 129 = .ok (.aload_n 0, 1) := by decide +kernel
theorem dX8_execute_130 : decode cX8_execute 130 = .ok (.iconst 2, 1) := by decide +kernel
theorem dX8_execute_131 : decode cX8_execute 131 = .ok (.putfield 54, 3) := by decide +kernel
theorem dX8_execute_134 : decode cX8_execute 134 = .ok (.iload_n 3, 1) := by decide +kernel
theorem dX8_execute_135 : decode cX8_execute 135 = .ok (.ifCond .le 7, 3) := by decide +kernel
theorem dX8_execute_138 : decode cX8_execute 138 = .ok (.iconst 0, 1) := by decide +kernel
theorem dX8_execute_139 : decode cX8_execute 139 = .ok (.goto 4, 3) := by decide +kernel
theorem dX8_execute_142 : decode cX8_execute 142 = .ok (.iload_n 3, 1) := by decide +kernel
theorem dX8_execute_143 : decode cX8_execute 143 = .ok (.ireturn, 1) := by decide +kernel
theorem dX8_execute_144 : decode cX8_execute 144 = .ok (.aload_n 0, 1) := by decide +kernel
theorem dX8_execute_145 : decode cX8_execute 145 = .ok (.aload_n 0, 1) := by decide +kernel
theorem dX8_execute_146 : decode cX8_execute 146 = .ok (.getfield 19, 3) := by decide +kernel
theorem dX8_execute_149 : decode cX8_execute 149 = .ok (.invokevirtual 93, 3) := by decide +kernel
theorem dX8_execute_152 : decode cX8_execute 152 = .ok (.aload_n 0, 1) := by decide +kernel
theorem dX8_execute_153 : decode cX8_execute 153 = .ok (.getfield 201, 3) := by decide +kernel
theorem dX8_execute_156 : decode cX8_execute 156 = .ok (.ireturn, 1) := by decide +kernel
theorem dX8_errorPosition_0 : decode cX8_errorPosition 0 = .ok (.aload_n 0, 1) := by decide +kernel
theorem dX8_errorPosition_1 : decode cX8_errorPosition 1 = .ok (.aload_n 0, 1) := by decide +kernel
theorem dX8_errorPosition_2 : decode cX8_errorPosition 2 = .ok (.getfield 25, 3) := by decide +kernel
theorem dX8_errorPosition_5 : decode cX8_errorPosition 5 = .ok (.ifCond .ge 7, 3) := by decide +kernel
theorem dX8_errorPosition_8 : decode cX8_errorPosition 8 = .ok (.iconst 1, 1) := by decide +kernel
theorem dX8_errorPosition_9 : decode cX8_errorPosition 9 = .ok (.goto 4, 3) := by decide +kernel
theorem dX8_errorPosition_12 : decode cX8_errorPosition 12 = .ok (.iconst 0, 1) := by decide +kernel
theorem dX8_errorPosition_13 : decode cX8_errorPosition 13 = .ok (.invokevirtual 89, 3) := by decide +kernel
theorem dX8_errorPosition_16 : decode cX8_errorPosition 16 = .ok (.ifCond .eq 7, 3) := by decide +kernel
theorem dX8_errorPosition_19 : decode cX8_errorPosition 19 = .ok (.iconst 0, 1) := by decide +kernel
theorem dX8_errorPosition_20 : decode cX8_errorPosition 20 = .ok (.goto 7, 3) := by decide +kernel
theorem dX8_errorPosition_23 : decode cX8_errorPosition 23 = .ok (.aload_n 0, 1) := by decide +kernel
theorem dX8_errorPosition_24 : decode cX8_errorPosition 24 = .ok (.getfield 25, 3) := by decide +kernel
theorem dX8_errorPosition_27 : decode cX8_errorPosition 27 = .ok (.ireturn, 1) := by decide +kernel
theorem dX8_failedCommand_0 : decode cX8_failedCommand 0 = .ok (.aload_n 0, 1) := by decide +kernel
theorem dX8_failedCommand_1 : decode cX8_failedCommand 1 = .ok (.aload_n 0, 1) := by decide +kernel
theorem dX8_failedCommand_2 : decode cX8_failedCommand 2 = .ok (.getfield 29, 3) := by decide +kernel
theorem dX8_failedCommand_5 : decode cX8_failedCommand 5 = .ok (.ifCond .ge 7, 3) := by decide +kernel
theorem dX8_failedCommand_8 : decode cX8_failedCommand 8 = .ok (.iconst 1, 1) := by decide +kernel
theorem dX8_failedCommand_9 : decode cX8_failedCommand 9 = .ok (.goto 4, 3) := by decide +kernel
theorem dX8_failedCommand_12 : decode cX8_failedCommand 12 = .ok (.iconst 0, 1) := by decide +kernel
theorem dX8_failedCommand_13 : decode cX8_failedCommand 13 = .ok (.invokevirtual 89, 3) := by decide +kernel
theorem dX8_failedCommand_16 : decode cX8_failedCommand 16 = .ok (.ifCond .eq 7, 3) := by decide +kernel
theorem dX8_failedCommand_19 : decode cX8_failedCommand 19 = .ok (.iconst 0, 1) := by decide +kernel
theorem dX8_failedCommand_20 : decode cX8_failedCommand 20 = .ok (.goto 7, 3) := by decide +kernel
theorem dX8_failedCommand_23 : decode cX8_failedCommand 23 = .ok (.aload_n 0, 1) := by decide +kernel
theorem dX8_failedCommand_24 : decode cX8_failedCommand 24 = .ok (.getfield 29, 3) := by decide +kernel
theorem dX8_failedCommand_27 : decode cX8_failedCommand 27 = .ok (.ireturn, 1) := by decide +kernel
theorem dX8_undo_0 : decode cX8_undo 0 = .ok (.aload_n 0, 1) := by decide +kernel
theorem dX8_undo_1 : decode cX8_undo 1 = .ok (.aload_n 0, 1) := by decide +kernel
theorem dX8_undo_2 : decode cX8_undo 2 = .ok (.getfield 61, 3) := by decide +kernel
theorem dX8_undo_5 : decode cX8_undo 5 = .ok (.ifCond .ne 7, 3) := by decide +kernel
theorem dX8_undo_8 : decode cX8_undo 8 = .ok (.iconst 1, 1) := by decide +kernel
theorem dX8_undo_9 : decode cX8_undo 9 = .ok (.goto 4, 3) := by decide +kernel
theorem dX8_undo_12 : decode cX8_undo 12 = .ok (.iconst 0, 1) := by decide +kernel
theorem dX8_undo_13 : decode cX8_undo 13 = .ok (.invokevirtual 89, 3) := by decide +kernel
theorem dX8_undo_16 : decode cX8_undo 16 = .ok (.ifCond .eq 5, 3) := by decide +kernel
theorem dX8_undo_19 : decode cX8_undo 19 = .ok (.iconst 0, 1) := by decide +kernel
theorem dX8_undo_20 : decode cX8_undo 20 = .ok (.ireturn, 1) := by decide +kernel
theorem dX8_undo_21 : decode cX8_undo 21 = .ok (.aload_n 0, 1) := by decide +kernel
theorem dX8_undo_22 : decode cX8_undo 22 = .ok (.dup, 1) := by decide +kernel
theorem dX8_undo_23 : decode cX8_undo 23 = .ok (.getfield 61, 3) := by decide +kernel
theorem dX8_undo_26 : decode cX8_undo 26 = .ok (.iconst 1, 1) := by decide +kernel
theorem dX8_undo_27 : decode cX8_undo 27 = .ok (.isub, 1) := by decide +kernel
theorem dX8_undo_28 : decode cX8_undo 28 = .ok (.putfield 61, 3) := by decide +kernel
theorem dX8_undo_31 : decode cX8_undo 31 = .ok (.aload_n 0, 1) := by decide +kernel
theorem dX8_undo_32 : decode cX8_undo 32 = .ok (.getfield 13, 3) := by decide +kernel
theorem dX8_undo_35 : decode cX8_undo 35 = .ok (.sipush 138, 3) := by decide +kernel
theorem dX8_undo_38 : decode cX8_undo 38 = .ok (.aload_n 0, 1) := by decide +kernel
theorem dX8_undo_39 : decode cX8_undo 39 = .ok (.getfield 61, 3) := by decide +kernel
theorem dX8_undo_42 : decode cX8_undo 42 = .ok (.imul, 1) := by decide +kernel
theorem dX8_undo_43 : decode cX8_undo 43 = .ok (.aload_n 0, 1) := by decide +kernel
theorem dX8_undo_44 : decode cX8_undo 44 = .ok (.getfield 7, 3) := by decide +kernel
theorem dX8_undo_47 : decode cX8_undo 47 = .ok (.iconst 0, 1) := by decide +kernel
theorem dX8_undo_48 : decode cX8_undo 48 = .ok (.invokestatic 64, 3) := by decide +kernel
theorem dX8_undo_51 : decode cX8_undo 51 = .ok (.aload_n 0, 1) := by decide +kernel
theorem dX8_undo_52 : decode cX8_undo 52 = .ok (.getfield 61, 3) := by decide +kernel
theorem dX8_undo_55 : decode cX8_undo 55 = .ok (.ireturn, 1) := by decide +kernel
theorem dX8_save_0 : decode cX8_save 0 = .ok (.aload_n 0, 1) := by decide +kernel
theorem dX8_save_1 : decode cX8_save 1 = .ok (.iconst 0, 1) := by decide +kernel
theorem dX8_save_2 : decode cX8_save 2 = .ok (.putfield 54, 3) := by decide +kernel
theorem dX8_save_5 : decode cX8_save 5 = .ok (.aload_n 0, 1) := by decide +kernel
theorem dX8_save_6 : decode cX8_save 6 = .ok (.iconst 1, 1) := by decide +kernel
theorem dX8_save_7 : decode cX8_save 7 = .ok (.putfield 278, 3) := by decide +kernel
theorem dX8_save_10 : decode cX8_save 10 = .ok (.aload_n 0, 1) := by decide +kernel
theorem dX8_save_11 : decode cX8_save 11 = .ok (.getfield 7, 3) := by decide +kernel
theorem dX8_save_14 : decode cX8_save 14 = .ok (.iconst 0, 1) := by decide +kernel
theorem dX8_save_15 : decode cX8_save 15 = .ok (.aload_n 0, 1) := by decide +kernel
theorem dX8_save_16 : decode cX8_save 16 = .ok (.getfield 16, 3) := by decide +kernel
theorem dX8_save_19 : decode cX8_save 19 = .ok (.iconst 0, 1) := by decide +kernel
theorem dX8_save_20 : decode cX8_save 20 = .ok (.invokestatic 64, 3) := by decide +kernel
theorem dX8_save_23 : decode cX8_save 23 = .ok (.aload_n 0, 1) := by decide +kernel
theorem dX8_save_24 : decode cX8_save 24 = .ok (.getfield 7, 3) := by decide +kernel
theorem dX8_save_27 : decode cX8_save 27 = .ok (.iconst 2, 1) := by decide +kernel
theorem dX8_save_28 : decode cX8_save 28 = .ok (.iaload, 1) := by decide +kernel
theorem dX8_save_29 : decode cX8_save 29 = .ok (.ireturn, 1) := by decide +kernel
theorem dX8_restore_0 : decode cX8_restore 0 = .ok (.aload_n 0, 1) := by decide +kernel
theorem dX8_restore_1 : decode cX8_restore 1 = .ok (.aload_n 0, 1) := by decide +kernel
theorem dX8_restore_2 : decode cX8_restore 2 = .ok (.getfield 278, 3) := by decide +kernel
theorem dX8_restore_5 : decode cX8_restore 5 = .ok (.ifCond .eq 7, 3) := by decide +kernel
theorem dX8_restore_8 : decode cX8_restore 8 = .ok (.iconst 0, 1) := by decide +kernel
theorem dX8_restore_9 : decode cX8_restore 9 = .ok (.goto 4, 3) := by decide +kernel
theorem dX8_restore_12 : decode cX8_restore 12 = .ok (.iconst 1, 1) := by decide +kernel
theorem dX8_restore_13 : decode cX8_restore 13 = .ok (.invokevirtual 89, 3) := by decide +kernel
theorem dX8_restore_16 : decode cX8_restore 16 = .ok (.ifCond .eq 5, 3) := by decide +kernel
theorem dX8_restore_19 : decode cX8_restore 19 = .ok (.iconst 0, 1) := by decide +kernel
theorem dX8_restore_20 : decode cX8_restore 20 = .ok (.ireturn, 1) := by decide +kernel
theorem dX8_restore_21 : decode cX8_restore 21 = .ok (.aload_n 0, 1) := by decide +kernel
theorem dX8_restore_22 : decode cX8_restore 22 = .ok (.getfield 16, 3) := by decide +kernel
theorem dX8_restore_25 : decode cX8_restore 25 = .ok (.iconst 0, 1) := by decide +kernel
theorem dX8_restore_26 : decode cX8_restore 26 = .ok (.aload_n 0, 1) := by decide +kernel
theorem dX8_restore_27 : decode cX8_restore 27 = .ok (.getfield 7, 3) := by decide +kernel
theorem dX8_restore_30 : decode cX8_restore 30 = .ok (.iconst 0, 1) := by decide +kernel
theorem dX8_restore_31 : decode cX8_restore 31 = .ok (.invokestatic 64, 3) := by decide +kernel
theorem dX8_restore_34 : decode cX8_restore 34 = .ok (.aload_n 0, 1) := by decide +kernel
theorem dX8_restore_35 : decode cX8_restore 35 = .ok (.iconst 0, 1) := by decide +kernel
theorem dX8_restore_36 : decode cX8_restore 36 = .ok (.putfield 61, 3) := by decide +kernel
theorem dX8_restore_39 : decode cX8_restore 39 = .ok (.aload_n 0, 1) := by decide +kernel
theorem dX8_restore_40 : decode cX8_restore 40 = .ok (.getfield 7, 3) := by decide +kernel
theorem dX8_restore_43 : decode cX8_restore 43 = .ok (.iconst 2, 1) := by decide +kernel
theorem dX8_restore_44 : decode cX8_restore 44 = .ok (.iaload, 1) := by decide +kernel
theorem dX8_restore_45 : decode cX8_restore 45 = .ok (.ireturn, 1) := by decide +kernel
theorem dJ5_init_d00df_0 : decode cJ5_init_d00df 0 = .ok (.aload_n 0, 1) := by decide +kernel
theorem dJ5_init_d00df_1 : decode cJ5_init_d00df 1 = .ok (.invokespecial 3, 3) := by decide +kernel
theorem dJ5_init_d00df_4 : decode cJ5_init_d00df 4 = .ok (.getstatic 18, 3) := by decide +kernel
theorem dJ5_init_d00df_7 : decode cJ5_init_d00df 7 = .ok (.ifCond .eq 18, 3) := by decide +kernel
theorem dJ5_init_d00df_10 : decode cJ5_init_d00df 10 = .ok (.aload_n 0, 1) := by decide +kernel
theorem dJ5_init_d00df_11 : decode cJ5_init_d00df 11 = .ok (.iload_n 1, 1) := by decide +kernel
theorem dJ5_init_d00df_12 : decode cJ5_init_d00df 12 = .ok (.newarray .byte, 2) := by decide +kernel
theorem dJ5_init_d00df_14 : decode cJ5_init_d00df 14 = .ok (.putfield 15, 3) := by decide +kernel
theorem dJ5_init_d00df_17 : decode cJ5_init_d00df 17 = .ok (.aload_n 0, 1) := by decide +kernel
theorem dJ5_init_d00df_18 : decode cJ5_init_d00df 18 = .ok (.iconst 0, 1) := by decide +kernel
theorem dJ5_init_d00df_19 : decode cJ5_init_d00df 19 = .ok (.putfield 22, 3) := by decide +kernel
theorem dJ5_init_d00df_22 : decode cJ5_init_d00df 22 = .ok (.goto 16, 3) := by decide +kernel
theorem dJ5_init_d00df_25 : decode cJ5_init_d00df 25 = .ok (.aload_n 0, 1) := by decide +kernel
theorem dJ5_init_d00df_26 : decode cJ5_init_d00df 26 = .ok (.iload_n 1, 1) := by decide +kernel
theorem dJ5_init_d00df_27 : decode cJ5_init_d00df 27 = .ok (.invokestatic 26, 3) := by decide +kernel
theorem dJ5_init_d00df_30 : decode cJ5_init_d00df 30 = .ok (.putfield 15, 3) := by decide +kernel
theorem dJ5_init_d00df_33 : decode cJ5_init_d00df 33 = .ok (.aload_n 0, 1) := by decide +kernel
theorem dJ5_init_d00df_34 : decode cJ5_init_d00df 34 = .ok (.iconst 1, 1) := by decide +kernel
theorem dJ5_init_d00df_35 : decode cJ5_init_d00df 35 = .ok (.putfield 22, 3) := by decide +kernel
theorem dJ5_init_d00df_38 : decode cJ5_init_d00df 38 = .ok (.return_, 1) := by decide +kernel
theorem dJ5_length_8abf5_0 : decode cJ5_length_8abf5 0 = .ok (.aload_n 0, 1) := by decide +kernel
theorem dJ5_length_8abf5_1 : decode cJ5_length_8abf5 1 = .ok (.getfield 79, 3) := by decide +kernel
theorem dJ5_length_8abf5_4 : decode cJ5_length_8abf5 4 = .ok (.ireturn, 1) := by decide +kernel
theorem dJ5_ensureCapacityInternal_d00df_0 : decode cJ5_ensureCapacityInternal_d00df 0 = .ok (.aload_n 0, 1) := by decide +kernel
theorem dJ5_ensureCapacityInternal_d00df_1 : decode cJ5_ensureCapacityInternal_d00df 1 = .ok (.getfield 15, 3) := by decide +kernel
theorem dJ5_ensureCapacityInternal_d00df_4 : decode cJ5_ensureCapacityInternal_d00df 4 = .ok (.arraylength, 1) := by decide +kernel
theorem dJ5_ensureCapacityInternal_d00df_5 : decode cJ5_ensureCapacityInternal_d00df 5 = .ok (.aload_n 0, 1) := by decide +kernel
theorem dJ5_ensureCapacityInternal_d00df_6 : decode cJ5_ensureCapacityInternal_d00df 6 = .ok (.getfield 22, 3) := by decide +kernel
theorem dJ5_ensureCapacityInternal_d00df_9 : decode cJ5_ensureCapacityInternal_d00df 9 = .ok (.ishr, 1) := by decide +kernel
theorem dJ5_ensureCapacityInternal_d00df_10 : decode cJ5_ensureCapacityInternal_d00df 10 = .ok (.istore_n 2, 1) := by decide +kernel
theorem dJ5_ensureCapacityInternal_d00df_11 : decode cJ5_ensureCapacityInternal_d00df 11 = .ok (.iload_n 1, 1) := by decide +kernel
theorem dJ5_ensureCapacityInternal_d00df_12 : decode cJ5_ensureCapacityInternal_d00df 12 = .ok (.iload_n 2, 1) := by decide +kernel
theorem dJ5_ensureCapacityInternal_d00df_13 : decode cJ5_ensureCapacityInternal_d00df 13 = .ok (.isub, 1) := by decide +kernel
theorem dJ5_ensureCapacityInternal_d00df_14 : decode cJ5_ensureCapacityInternal_d00df 14 = .ok (.ifCond .le 24, 3) := by decide +kernel
theorem dJ5_ensureCapacityInternal_d00df_17 : decode cJ5_ensureCapacityInternal_d00df 17 = .ok (.aload_n 0, 1) := by decide +kernel
theorem dJ5_ensureCapacityInternal_d00df_18 : decode cJ5_ensureCapacityInternal_d00df 18 = .ok (.aload_n 0, 1) := by decide +kernel
theorem dJ5_ensureCapacityInternal_d00df_19 : decode cJ5_ensureCapacityInternal_d00df 19 = .ok (.getfield 15, 3) := by decide +kernel
theorem dJ5_ensureCapacityInternal_d00df_22 : decode cJ5_ensureCapacityInternal_d00df 22 = .ok (.aload_n 0, 1) := by decide +kernel
theorem dJ5_ensureCapacityInternal_d00df_23 : decode cJ5_ensureCapacityInternal_d00df 23 = .ok (.iload_n 1, 1) := by decide +kernel
theorem dJ5_ensureCapacityInternal_d00df_24 : decode cJ5_ensureCapacityInternal_d00df 24 = .ok (.invokevirtual 104, 3) := by decide +kernel
theorem dJ5_ensureCapacityInternal_d00df_27 : decode cJ5_ensureCapacityInternal_d00df 27 = .ok (.aload_n 0, 1) := by decide +kernel
theorem dJ5_ensureCapacityInternal_d00df_28 : decode cJ5_ensureCapacityInternal_d00df 28 = .ok (.getfield 22, 3) := by decide +kernel
theorem dJ5_ensureCapacityInternal_d00df_31 : decode cJ5_ensureCapacityInternal_d00df 31 = .ok (.ishl, 1) := by decide +kernel
theorem dJ5_ensureCapacityInternal_d00df_32 : decode cJ5_ensureCapacityInternal_d00df 32 = .ok (.invokestatic 108, 3) := by decide +kernel
theorem dJ5_ensureCapacityInternal_d00df_35 : decode cJ5_ensureCapacityInternal_d00df 35 = .ok (.putfield 15, 3) := by decide +kernel
theorem dJ5_ensureCapacityInternal_d00df_38 : decode cJ5_ensureCapacityInternal_d00df 38 = .ok (.return_, 1) := by decide +kernel
theorem dJ5_newCapacity_0f7a4_0 : decode cJ5_newCapacity_0f7a4 0 = .ok (.aload_n 0, 1) := by decide +kernel
theorem dJ5_newCapacity_0f7a4_1 : decode cJ5_newCapacity_0f7a4 1 = .ok (.getfield 15, 3) := by decide +kernel
theorem dJ5_newCapacity_0f7a4_4 : decode cJ5_newCapacity_0f7a4 4 = .ok (.arraylength, 1) := by decide +kernel
theorem dJ5_newCapacity_0f7a4_5 : decode cJ5_newCapacity_0f7a4 5 = .ok (.istore_n 2, 1) := by decide +kernel
theorem dJ5_newCapacity_0f7a4_6 : decode cJ5_newCapacity_0f7a4 6 = .ok (.iload_n 1, 1) := by decide +kernel
theorem dJ5_newCapacity_0f7a4_7 : decode cJ5_newCapacity_0f7a4 7 = .ok (.aload_n 0, 1) := by decide +kernel
theorem dJ5_newCapacity_0f7a4_8 : decode cJ5_newCapacity_0f7a4 8 = .ok (.getfield 22, 3) := by decide +kernel
theorem dJ5_newCapacity_0f7a4_11 : decode cJ5_newCapacity_0f7a4 11 = .ok (.ishl, 1) := by decide +kernel
theorem dJ5_newCapacity_0f7a4_12 : decode cJ5_newCapacity_0f7a4 12 = .ok (.istore_n 3, 1) := by decide +kernel
theorem dJ5_newCapacity_0f7a4_13 : decode cJ5_newCapacity_0f7a4 13 = .ok (.iload_n 3, 1) := by decide +kernel
theorem dJ5_newCapacity_0f7a4_14 : decode cJ5_newCapacity_0f7a4 14 = .ok (.iload_n 2, 1) := by decide +kernel
theorem dJ5_newCapacity_0f7a4_15 : decode cJ5_newCapacity_0f7a4 15 = .ok (.isub, 1) := by decide +kernel
theorem dJ5_newCapacity_0f7a4_16 : decode cJ5_newCapacity_0f7a4 16 = .ok (.istore 4, 2) := by decide +kernel
theorem dJ5_newCapacity_0f7a4_18 : decode cJ5_newCapacity_0f7a4 18 = .ok (.iload_n 2, 1) := by decide +kernel
theorem dJ5_newCapacity_0f7a4_19 : decode cJ5_newCapacity_0f7a4 19 = .ok (.iload 4, 2) := by decide +kernel
theorem dJ5_newCapacity_0f7a4_21 : decode cJ5_newCapacity_0f7a4 21 = .ok (.iload_n 2, 1) := by decide +kernel
theorem dJ5_newCapacity_0f7a4_22 : decode cJ5_newCapacity_0f7a4 22 = .ok (.iconst 2, 1) := by decide +kernel
theorem dJ5_newCapacity_0f7a4_23 : decode cJ5_newCapacity_0f7a4 23 = .ok (.aload_n 0, 1) := by decide +kernel
theorem dJ5_newCapacity_0f7a4_24 : decode cJ5_newCapacity_0f7a4 24 = .ok (.getfield 22, 3) := by decide +kernel
theorem dJ5_newCapacity_0f7a4_27 : decode cJ5_newCapacity_0f7a4 27 = .ok (.ishl, 1) := by decide +kernel
theorem dJ5_newCapacity_0f7a4_28 : decode cJ5_newCapacity_0f7a4 28 = .ok (.iadd, 1) := by decide +kernel
theorem dJ5_newCapacity_0f7a4_29 : decode cJ5_newCapacity_0f7a4 29 = .ok (.invokestatic 114, 3) := by decide +kernel
theorem dJ5_newCapacity_0f7a4_32 : decode cJ5_newCapacity_0f7a4 32 = .ok (.istore 5, 2) := by decide +kernel
theorem dJ5_newCapacity_0f7a4_34 : decode cJ5_newCapacity_0f7a4 34 = .ok (.iload 5, 2) := by decide +kernel
theorem dJ5_newCapacity_0f7a4_36 : decode cJ5_newCapacity_0f7a4 36 = .ok (.ldc 39, 2) := by decide +kernel
theorem dJ5_newCapacity_0f7a4_38 : decode cJ5_newCapacity_0f7a4 38 = .ok (.if_icmp .ne 13, 3) := by decide +kernel
theorem dJ5_newCapacity_0f7a4_41 : decode cJ5_newCapacity_0f7a4 41 = .ok (.new 120, 3) := by decide +kernel
theorem dJ5_newCapacity_0f7a4_44 : decode cJ5_newCapacity_0f7a4 44 = .ok (.dup, 1) := by decide +kernel
theorem dJ5_newCapacity_0f7a4_45 : decode cJ5_newCapacity_0f7a4 45 = .ok (.ldc 122, 2) := by decide +kernel
theorem dJ5_newCapacity_0f7a4_47 : decode cJ5_newCapacity_0f7a4 47 = .ok (.invokespecial 124, 3) := by decide +kernel
theorem dJ5_newCapacity_0f7a4_50 : decode cJ5_newCapacity_0f7a4 50 = .ok (.athrow, 1) := by decide +kernel
theorem dJ5_newCapacity_0f7a4_51 : decode cJ5_newCapacity_0f7a4 51 = .ok (.iload 5, 2) := by decide +kernel
theorem dJ5_newCapacity_0f7a4_53 : decode cJ5_newCapacity_0f7a4 53 = .ok (.aload_n 0, 1) := by decide +kernel
theorem dJ5_newCapacity_0f7a4_54 : decode cJ5_newCapacity_0f7a4 54 = .ok (.getfield 22, 3) := by decide +kernel
theorem dJ5_newCapacity_0f7a4_57 : decode cJ5_newCapacity_0f7a4 57 = .ok (.ishr, 1) := by decide +kernel
theorem dJ5_newCapacity_0f7a4_58 : decode cJ5_newCapacity_0f7a4 58 = .ok (.ireturn, 1) := by decide +kernel
theorem dJ5_inflate_da8c8_0 : decode cJ5_inflate_da8c8 0 = .ok (.aload_n 0, 1) := by decide +kernel
theorem dJ5_inflate_da8c8_1 : decode cJ5_inflate_da8c8 1 = .ok (.invokevirtual 83, 3) := by decide +kernel
theorem dJ5_inflate_da8c8_4 : decode cJ5_inflate_da8c8 4 = .ok (.ifCond .ne 4, 3) := by decide +kernel
theorem dJ5_inflate_da8c8_7 : decode cJ5_inflate_da8c8 7 = .ok (.return_, 1) := by decide +kernel
theorem dJ5_inflate_da8c8_8 : decode cJ5_inflate_da8c8 8 = .ok (.aload_n 0, 1) := by decide +kernel
theorem dJ5_inflate_da8c8_9 : decode cJ5_inflate_da8c8 9 = .ok (.getfield 15, 3) := by decide +kernel
theorem dJ5_inflate_da8c8_12 : decode cJ5_inflate_da8c8 12 = .ok (.arraylength, 1) := by decide +kernel
theorem dJ5_inflate_da8c8_13 : decode cJ5_inflate_da8c8 13 = .ok (.invokestatic 26, 3) := by decide +kernel
theorem dJ5_inflate_da8c8_16 : decode cJ5_inflate_da8c8 16 = .ok (.astore_n 1, 1) := by decide +kernel
theorem dJ5_inflate_da8c8_17 : decode cJ5_inflate_da8c8 17 = .ok (.aload_n 0, 1) := by decide +kernel
theorem dJ5_inflate_da8c8_18 : decode cJ5_inflate_da8c8 18 = .ok (.getfield 15, 3) := by decide +kernel
theorem dJ5_inflate_da8c8_21 : decode cJ5_inflate_da8c8 21 = .ok (.iconst 0, 1) := by decide +kernel
theorem dJ5_inflate_da8c8_22 : decode cJ5_inflate_da8c8 22 = .ok (.aload_n 1, 1) := by decide +kernel
theorem dJ5_inflate_da8c8_23 : decode cJ5_inflate_da8c8 23 = .ok (.iconst 0, 1) := by decide +kernel
theorem dJ5_inflate_da8c8_24 : decode cJ5_inflate_da8c8 24 = .ok (.aload_n 0, 1) := by decide +kernel
theorem dJ5_inflate_da8c8_25 : decode cJ5_inflate_da8c8 25 = .ok (.getfield 79, 3) := by decide +kernel
theorem dJ5_inflate_da8c8_28 : decode cJ5_inflate_da8c8 28 = .ok (.invokestatic 125, 3) := by decide +kernel
theorem dJ5_inflate_da8c8_31 : decode cJ5_inflate_da8c8 31 = .ok (.aload_n 0, 1) := by decide +kernel
theorem dJ5_inflate_da8c8_32 : decode cJ5_inflate_da8c8 32 = .ok (.aload_n 1, 1) := by decide +kernel
theorem dJ5_inflate_da8c8_33 : decode cJ5_inflate_da8c8 33 = .ok (.putfield 15, 3) := by decide +kernel
theorem dJ5_inflate_da8c8_36 : decode cJ5_inflate_da8c8 36 = .ok (.aload_n 0, 1) := by decide +kernel
theorem dJ5_inflate_da8c8_37 : decode cJ5_inflate_da8c8 37 = .ok (.iconst 1, 1) := by decide +kernel
theorem dJ5_inflate_da8c8_38 : decode cJ5_inflate_da8c8 38 = .ok (.putfield 22, 3) := by decide +kernel
theorem dJ5_inflate_da8c8_41 : decode cJ5_inflate_da8c8 41 = .ok (.return_, 1) := by decide +kernel
theorem dJ5_setLength_d00df_0 : decode cJ5_setLength_d00df 0 = .ok (.iload_n 1, 1) := by decide +kernel
theorem dJ5_setLength_d00df_1 : decode cJ5_setLength_d00df 1 = .ok (.ifCond .ge 12, 3) := by decide +kernel
theorem dJ5_setLength_d00df_4 : decode cJ5_setLength_d00df 4 = .ok (.new 129, 3) := by decide +kernel
theorem dJ5_setLength_d00df_7 : decode cJ5_setLength_d00df 7 = .ok (.dup, 1) := by decide +kernel
theorem dJ5_setLength_d00df_8 : decode cJ5_setLength_d00df 8 = .ok (.iload_n 1, 1) := by decide +kernel
theorem dJ5_setLength_d00df_9 : decode cJ5_setLength_d00df 9 = .ok (.invokespecial 131, 3) := by decide +kernel
theorem dJ5_setLength_d00df_12 : decode cJ5_setLength_d00df 12 = .ok (.athrow, 1) := by decide +kernel
theorem dJ5_setLength_d00df_13 : decode cJ5_setLength_d00df 13 = .ok (.aload_n 0, 1) := by decide +kernel
theorem dJ5_setLength_d00df_14 : decode cJ5_setLength_d00df 14 = .ok (.iload_n 1, 1) := by decide +kernel
theorem dJ5_setLength_d00df_15 : decode cJ5_setLength_d00df 15 = .ok (.invokevirtual 100, 3) := by decide +kernel
theorem dJ5_setLength_d00df_18 : decode cJ5_setLength_d00df 18 = .ok (.aload_n 0, 1) := by decide +kernel
theorem dJ5_setLength_d00df_19 : decode cJ5_setLength_d00df 19 = .ok (.getfield 79, 3) := by decide +kernel
theorem dJ5_setLength_d00df_22 : decode cJ5_setLength_d00df 22 = .ok (.iload_n 1, 1) := by decide +kernel
theorem dJ5_setLength_d00df_23 : decode cJ5_setLength_d00df 23 = .ok (.if_icmp .ge 40, 3) := by decide +kernel
theorem dJ5_setLength_d00df_26 : decode cJ5_setLength_d00df 26 = .ok (.aload_n 0, 1) := by decide +kernel
theorem dJ5_setLength_d00df_27 : decode cJ5_setLength_d00df 27 = .ok (.invokevirtual 83, 3) := by decide +kernel
theorem dJ5_setLength_d00df_30 : decode cJ5_setLength_d00df 30 = .ok (.ifCond .eq 18, 3) := by decide +kernel
theorem dJ5_setLength_d00df_33 : decode cJ5_setLength_d00df 33 = .ok (.aload_n 0, 1) := by decide +kernel
theorem dJ5_setLength_d00df_34 : decode cJ5_setLength_d00df 34 = .ok (.getfield 15, 3) := by decide +kernel
theorem dJ5_setLength_d00df_37 : decode cJ5_setLength_d00df 37 = .ok (.aload_n 0, 1) := by decide +kernel
theorem dJ5_setLength_d00df_38 : decode cJ5_setLength_d00df 38 = .ok (.getfield 79, 3) := by decide +kernel
theorem dJ5_setLength_d00df_41 : decode cJ5_setLength_d00df 41 = .ok (.iload_n 1, 1) := by decide +kernel
theorem dJ5_setLength_d00df_42 : decode cJ5_setLength_d00df 42 = .ok (.invokestatic 133, 3) := by decide +kernel
theorem dJ5_setLength_d00df_45 : decode cJ5_setLength_d00df 45 = .ok (.goto 31, 3) := by decide +kernel
theorem dJ5_setLength_d00df_48 : decode cJ5_setLength_d00df 48 = .ok (.aload_n 0, 1) := by decide +kernel
theorem dJ5_setLength_d00df_49 : decode cJ5_setLength_d00df 49 = .ok (.getfield 15, 3) := by decide +kernel
theorem dJ5_setLength_d00df_52 : decode cJ5_setLength_d00df 52 = .ok (.aload_n 0, 1) := by decide +kernel
theorem dJ5_setLength_d00df_53 : decode cJ5_setLength_d00df 53 = .ok (.getfield 79, 3) := by decide +kernel
theorem dJ5_setLength_d00df_56 : decode cJ5_setLength_d00df 56 = .ok (.iload_n 1, 1) := by decide +kernel
theorem dJ5_setLength_d00df_57 : decode cJ5_setLength_d00df 57 = .ok (.invokestatic 137, 3) := by decide +kernel
theorem dJ5_setLength_d00df_60 : decode cJ5_setLength_d00df 60 = .ok (.goto 16, 3) := by decide +kernel
theorem dJ5_setLength_d00df_63 : decode cJ5_setLength_d00df 63 = .ok (.aload_n 0, 1) := by decide +kernel
theorem dJ5_setLength_d00df_64 : decode cJ5_setLength_d00df 64 = .ok (.getfield 79, 3) := by decide +kernel
theorem dJ5_setLength_d00df_67 : decode cJ5_setLength_d00df 67 = .ok (.iload_n 1, 1) := by decide +kernel
theorem dJ5_setLength_d00df_68 : decode cJ5_setLength_d00df 68 = .ok (.if_icmp .le 8, 3) := by decide +kernel
theorem dJ5_setLength_d00df_71 : decode cJ5_setLength_d00df 71 = .ok (.aload_n 0, 1) := by decide +kernel
theorem dJ5_setLength_d00df_72 : decode cJ5_setLength_d00df 72 = .ok (.iconst 1, 1) := by decide +kernel
theorem dJ5_setLength_d00df_73 : decode cJ5_setLength_d00df 73 = .ok (.putfield 73, 3) := by decide +kernel
theorem dJ5_setLength_d00df_76 : decode cJ5_setLength_d00df 76 = .ok (.aload_n 0, 1) := by decide +kernel
theorem dJ5_setLength_d00df_77 : decode cJ5_setLength_d00df 77 = .ok (.iload_n 1, 1) := by decide +kernel
theorem dJ5_setLength_d00df_78 : decode cJ5_setLength_d00df 78 = .ok (.putfield 79, 3) := by decide +kernel
theorem dJ5_setLength_d00df_81 : decode cJ5_setLength_d00df 81 = .ok (.return_, 1) := by decide +kernel
theorem dJ5_charAt_5068e_0 : decode cJ5_charAt_5068e 0 = .ok (.aload_n 0, 1) := by decide +kernel
theorem dJ5_charAt_5068e_1 : decode cJ5_charAt_5068e 1 = .ok (.getfield 22, 3) := by decide +kernel
theorem dJ5_charAt_5068e_4 : decode cJ5_charAt_5068e 4 = .ok (.istore_n 2, 1) := by decide +kernel
theorem dJ5_charAt_5068e_5 : decode cJ5_charAt_5068e 5 = .ok (.aload_n 0, 1) := by decide +kernel
theorem dJ5_charAt_5068e_6 : decode cJ5_charAt_5068e 6 = .ok (.getfield 15, 3) := by decide +kernel
theorem dJ5_charAt_5068e_9 : decode cJ5_charAt_5068e 9 = .ok (.astore_n 3, 1) := by decide +kernel
theorem dJ5_charAt_5068e_10 : decode cJ5_charAt_5068e 10 = .ok (.aload_n 0, 1) := by decide +kernel
theorem dJ5_charAt_5068e_11 : decode cJ5_charAt_5068e 11 = .ok (.getfield 79, 3) := by decide +kernel
theorem dJ5_charAt_5068e_14 : decode cJ5_charAt_5068e 14 = .ok (.aload_n 3, 1) := by decide +kernel
theorem dJ5_charAt_5068e_15 : decode cJ5_charAt_5068e 15 = .ok (.arraylength, 1) := by decide +kernel
theorem dJ5_charAt_5068e_16 : decode cJ5_charAt_5068e 16 = .ok (.iload_n 2, 1) := by decide +kernel
theorem dJ5_charAt_5068e_17 : decode cJ5_charAt_5068e 17 = .ok (.ishr, 1) := by decide +kernel
theorem dJ5_charAt_5068e_18 : decode cJ5_charAt_5068e 18 = .ok (.invokestatic 138, 3) := by decide +kernel
theorem dJ5_charAt_5068e_21 : decode cJ5_charAt_5068e 21 = .ok (.istore 4, 2) := by decide +kernel
theorem dJ5_charAt_5068e_23 : decode cJ5_charAt_5068e 23 = .ok (.iload_n 1, 1) := by decide +kernel
theorem dJ5_charAt_5068e_24 : decode cJ5_charAt_5068e 24 = .ok (.iload 4, 2) := by decide +kernel
theorem dJ5_charAt_5068e_26 : decode cJ5_charAt_5068e 26 = .ok (.invokestatic 144, 3) := by decide +kernel
theorem dJ5_charAt_5068e_29 : decode cJ5_charAt_5068e 29 = .ok (.iload_n 2, 1) := by decide +kernel
theorem dJ5_charAt_5068e_30 : decode cJ5_charAt_5068e 30 = .ok (.ifCond .ne 12, 3) := by decide +kernel
theorem dJ5_charAt_5068e_33 : decode cJ5_charAt_5068e 33 = .ok (.aload_n 3, 1) := by decide +kernel
theorem dJ5_charAt_5068e_34 : decode cJ5_charAt_5068e 34 = .ok (.iload_n 1, 1) := by decide +kernel
theorem dJ5_charAt_5068e_35 : decode cJ5_charAt_5068e 35 = .ok (.baload, 1) := by decide +kernel
theorem dJ5_charAt_5068e_36 : decode cJ5_charAt_5068e 36 = .ok (.sipush 255, 3) := by decide +kernel
theorem dJ5_charAt_5068e_39 : decode cJ5_charAt_5068e 39 = .ok (.iand, 1) := by decide +kernel
theorem dJ5_charAt_5068e_40 : decode cJ5_charAt_5068e 40 = .ok (.i2c, 1) := by decide +kernel
theorem dJ5_charAt_5068e_41 : decode cJ5_charAt_5068e 41 = .ok (.ireturn, 1) := by decide +kernel
theorem dJ5_charAt_5068e_42 : decode cJ5_charAt_5068e 42 = .ok (.aload_n 3, 1) := by decide +kernel
theorem dJ5_charAt_5068e_43 : decode cJ5_charAt_5068e 43 = .ok (.iload_n 1, 1) := by decide +kernel
theorem dJ5_charAt_5068e_44 : decode cJ5_charAt_5068e 44 = .ok (.invokestatic 148, 3) := by decide +kernel
theorem dJ5_charAt_5068e_47 : decode cJ5_charAt_5068e 47 = .ok (.ireturn, 1) := by decide +kernel
theorem dJ5_append_cf1ce_0 : decode cJ5_append_cf1ce 0 = .ok (.aload_n 1, 1) := by decide +kernel
theorem dJ5_append_cf1ce_1 : decode cJ5_append_cf1ce 1 = .ok (.ifnonnull 8, 3) := by decide +kernel
theorem dJ5_append_cf1ce_4 : decode cJ5_append_cf1ce 4 = .ok (.aload_n 0, 1) := by decide +kernel
theorem dJ5_append_cf1ce_5 : decode cJ5_append_cf1ce 5 = .ok (.invokevirtual 204, 3) := by decide +kernel
theorem dJ5_append_cf1ce_8 : decode cJ5_append_cf1ce 8 = .ok (.areturn, 1) := by decide +kernel
theorem dJ5_append_cf1ce_9 : decode cJ5_append_cf1ce 9 = .ok (.aload_n 1, 1) := by decide +kernel
theorem dJ5_append_cf1ce_10 : decode cJ5_append_cf1ce 10 = .ok (.invokevirtual 32, 3) := by decide +kernel
theorem dJ5_append_cf1ce_13 : decode cJ5_append_cf1ce 13 = .ok (.istore_n 2, 1) := by decide +kernel
theorem dJ5_append_cf1ce_14 : decode cJ5_append_cf1ce 14 = .ok (.aload_n 0, 1) := by decide +kernel
theorem dJ5_append_cf1ce_15 : decode cJ5_append_cf1ce 15 = .ok (.aload_n 0, 1) := by decide +kernel
theorem dJ5_append_cf1ce_16 : decode cJ5_append_cf1ce 16 = .ok (.getfield 79, 3) := by decide +kernel
theorem dJ5_append_cf1ce_19 : decode cJ5_append_cf1ce 19 = .ok (.iload_n 2, 1) := by decide +kernel
theorem dJ5_append_cf1ce_20 : decode cJ5_append_cf1ce 20 = .ok (.iadd, 1) := by decide +kernel
theorem dJ5_append_cf1ce_21 : decode cJ5_append_cf1ce 21 = .ok (.invokevirtual 100, 3) := by decide +kernel
theorem dJ5_append_cf1ce_24 : decode cJ5_append_cf1ce 24 = .ok (.aload_n 0, 1) := by decide +kernel
theorem dJ5_append_cf1ce_25 : decode cJ5_append_cf1ce 25 = .ok (.aload_n 0, 1) := by decide +kernel
theorem dJ5_append_cf1ce_26 : decode cJ5_append_cf1ce 26 = .ok (.getfield 79, 3) := by decide +kernel
theorem dJ5_append_cf1ce_29 : decode cJ5_append_cf1ce 29 = .ok (.aload_n 1, 1) := by decide +kernel
theorem dJ5_append_cf1ce_30 : decode cJ5_append_cf1ce 30 = .ok (.invokevirtual 208, 3) := by decide +kernel
theorem dJ5_append_cf1ce_33 : decode cJ5_append_cf1ce 33 = .ok (.aload_n 0, 1) := by decide +kernel
theorem dJ5_append_cf1ce_34 : decode cJ5_append_cf1ce 34 = .ok (.dup, 1) := by decide +kernel
theorem dJ5_append_cf1ce_35 : decode cJ5_append_cf1ce 35 = .ok (.getfield 79, 3) := by decide +kernel
theorem dJ5_append_cf1ce_38 : decode cJ5_append_cf1ce 38 = .ok (.iload_n 2, 1) := by decide +kernel
theorem dJ5_append_cf1ce_39 : decode cJ5_append_cf1ce 39 = .ok (.iadd, 1) := by decide +kernel
theorem dJ5_append_cf1ce_40 : decode cJ5_append_cf1ce 40 = .ok (.putfield 79, 3) := by decide +kernel
theorem dJ5_append_cf1ce_43 : decode cJ5_append_cf1ce 43 = .ok (.aload_n 0, 1) := by decide +kernel
theorem dJ5_append_cf1ce_44 : decode cJ5_append_cf1ce 44 = .ok (.areturn, 1) := by decide +kernel
theorem dJ5_appendNull_278bc_0 : decode cJ5_appendNull_278bc 0 = .ok (.aload_n 0, 1) := by decide +kernel
theorem dJ5_appendNull_278bc_1 : decode cJ5_appendNull_278bc 1 = .ok (.aload_n 0, 1) := by decide +kernel
theorem dJ5_appendNull_278bc_2 : decode cJ5_appendNull_278bc 2 = .ok (.getfield 79, 3) := by decide +kernel
theorem dJ5_appendNull_278bc_5 : decode cJ5_appendNull_278bc 5 = .ok (.iconst 4, 1) := by decide +kernel
theorem dJ5_appendNull_278bc_6 : decode cJ5_appendNull_278bc 6 = .ok (.iadd, 1) := by decide +kernel
theorem dJ5_appendNull_278bc_7 : decode cJ5_appendNull_278bc 7 = .ok (.invokevirtual 100, 3) := by decide +kernel
theorem dJ5_appendNull_278bc_10 : decode cJ5_appendNull_278bc 10 = .ok (.aload_n 0, 1) := by decide +kernel
theorem dJ5_appendNull_278bc_11 : decode cJ5_appendNull_278bc 11 = .ok (.getfield 79, 3) := by decide +kernel
theorem dJ5_appendNull_278bc_14 : decode cJ5_appendNull_278bc 14 = .ok (.istore_n 1, 1) := by decide +kernel
theorem dJ5_appendNull_278bc_15 : decode cJ5_appendNull_278bc 15 = .ok (.aload_n 0, 1) := by decide +kernel
theorem dJ5_appendNull_278bc_16 : decode cJ5_appendNull_278bc 16 = .ok (.getfield 15, 3) := by decide +kernel
theorem dJ5_appendNull_278bc_19 : decode cJ5_appendNull_278bc 19 = .ok (.astore_n 2, 1) := by decide +kernel
theorem dJ5_appendNull_278bc_20 : decode cJ5_appendNull_278bc 20 = .ok (.aload_n 0, 1) := by decide +kernel
theorem dJ5_appendNull_278bc_21 : decode cJ5_appendNull_278bc 21 = .ok (.invokevirtual 83, 3) := by decide +kernel
theorem dJ5_appendNull_278bc_24 : decode cJ5_appendNull_278bc 24 = .ok (.ifCond .eq 38, 3) := by decide +kernel
theorem dJ5_appendNull_278bc_27 : decode cJ5_appendNull_278bc 27 = .ok (.aload_n 2, 1) := by decide +kernel
theorem dJ5_appendNull_278bc_28 : decode cJ5_appendNull_278bc 28 = .ok (.iload_n 1, 1) := by decide +kernel
theorem dJ5_appendNull_278bc_29 : decode cJ5_appendNull_278bc 29 = .ok (.iinc 1 1, 3) := by decide +kernel
theorem dJ5_appendNull_278bc_32 : decode cJ5_appendNull_278bc 32 = .ok (.bipush 110, 2) := by decide +kernel
theorem dJ5_appendNull_278bc_34 : decode cJ5_appendNull_278bc 34 = .ok (.bastore, 1) := by decide +kernel
theorem dJ5_appendNull_278bc_35 : decode cJ5_appendNull_278bc 35 = .ok (.aload_n 2, 1) := by decide +kernel
theorem dJ5_appendNull_278bc_36 : decode cJ5_appendNull_278bc 36 = .ok (.iload_n 1, 1) := by decide +kernel
theorem dJ5_appendNull_278bc_37 : decode cJ5_appendNull_278bc 37 = .ok (.iinc 1 1, 3) := by decide +kernel
theorem dJ5_appendNull_278bc_40 : decode cJ5_appendNull_278bc 40 = .ok (.bipush 117, 2) := by decide +kernel
theorem dJ5_appendNull_278bc_42 : decode cJ5_appendNull_278bc 42 = .ok (.bastore, 1) := by decide +kernel
theorem dJ5_appendNull_278bc_43 : decode cJ5_appendNull_278bc 43 = .ok (.aload_n 2, 1) := by decide +kernel
theorem dJ5_appendNull_278bc_44 : decode cJ5_appendNull_278bc 44 = .ok (.iload_n 1, 1) := by decide +kernel
theorem dJ5_appendNull_278bc_45 : decode cJ5_appendNull_278bc 45 = .ok (.iinc 1 1, 3) := by decide +kernel
theorem dJ5_appendNull_278bc_48 : decode cJ5_appendNull_278bc 48 = .ok (.bipush 108, 2) := by decide +kernel
theorem dJ5_appendNull_278bc_50 : decode cJ5_appendNull_278bc 50 = .ok (.bastore, 1) := by decide +kernel
theorem dJ5_appendNull_278bc_51 : decode cJ5_appendNull_278bc 51 = .ok (.aload_n 2, 1) := by decide +kernel
theorem dJ5_appendNull_278bc_52 : decode cJ5_appendNull_278bc 52 = .ok (.iload_n 1, 1) := by decide +kernel
theorem dJ5_appendNull_278bc_53 : decode cJ5_appendNull_278bc 53 = .ok (.iinc 1 1, 3) := by decide +kernel
theorem dJ5_appendNull_278bc_56 : decode cJ5_appendNull_278bc 56 = .ok (.bipush 108, 2) := by decide +kernel
theorem dJ5_appendNull_278bc_58 : decode cJ5_appendNull_278bc 58 = .ok (.bastore, 1) := by decide +kernel
theorem dJ5_appendNull_278bc_59 : decode cJ5_appendNull_278bc 59 = .ok (.goto 17, 3) := by decide +kernel
theorem dJ5_appendNull_278bc_62 : decode cJ5_appendNull_278bc 62 = .ok (.aload_n 2, 1) := by decide +kernel
theorem dJ5_appendNull_278bc_63 : decode cJ5_appendNull_278bc 63 = .ok (.iload_n 1, 1) := by decide +kernel
theorem dJ5_appendNull_278bc_64 : decode cJ5_appendNull_278bc 64 = .ok (.bipush 110, 2) := by decide +kernel
theorem dJ5_appendNull_278bc_66 : decode cJ5_appendNull_278bc 66 = .ok (.bipush 117, 2) := by decide +kernel
theorem dJ5_appendNull_278bc_68 : decode cJ5_appendNull_278bc 68 = .ok (.bipush 108, 2) := by decide +kernel
theorem dJ5_appendNull_278bc_70 : decode cJ5_appendNull_278bc 70 = .ok (.bipush 108, 2) := by decide +kernel
theorem dJ5_appendNull_278bc_72 : decode cJ5_appendNull_278bc 72 = .ok (.invokestatic 226, 3) := by decide +kernel
theorem dJ5_appendNull_278bc_75 : decode cJ5_appendNull_278bc 75 = .ok (.istore_n 1, 1) := by decide +kernel
theorem dJ5_appendNull_278bc_76 : decode cJ5_appendNull_278bc 76 = .ok (.aload_n 0, 1) := by decide +kernel
theorem dJ5_appendNull_278bc_77 : decode cJ5_appendNull_278bc 77 = .ok (.iload_n 1, 1) := by decide +kernel
theorem dJ5_appendNull_278bc_78 : decode cJ5_appendNull_278bc 78 = .ok (.putfield 79, 3) := by decide +kernel
theorem dJ5_appendNull_278bc_81 : decode cJ5_appendNull_278bc 81 = .ok (.aload_n 0, 1) := by decide +kernel
theorem dJ5_appendNull_278bc_82 : decode cJ5_appendNull_278bc 82 = .ok (.areturn, 1) := by decide +kernel
theorem dJ5_append_3fe6f_0 : decode cJ5_append_3fe6f 0 = .ok (.aload_n 0, 1) := by decide +kernel
theorem dJ5_append_3fe6f_1 : decode cJ5_append_3fe6f 1 = .ok (.aload_n 0, 1) := by decide +kernel
theorem dJ5_append_3fe6f_2 : decode cJ5_append_3fe6f 2 = .ok (.getfield 79, 3) := by decide +kernel
theorem dJ5_append_3fe6f_5 : decode cJ5_append_3fe6f 5 = .ok (.iconst 1, 1) := by decide +kernel
theorem dJ5_append_3fe6f_6 : decode cJ5_append_3fe6f 6 = .ok (.iadd, 1) := by decide +kernel
theorem dJ5_append_3fe6f_7 : decode cJ5_append_3fe6f 7 = .ok (.invokevirtual 100, 3) := by decide +kernel
theorem dJ5_append_3fe6f_10 : decode cJ5_append_3fe6f 10 = .ok (.aload_n 0, 1) := by decide +kernel
theorem dJ5_append_3fe6f_11 : decode cJ5_append_3fe6f 11 = .ok (.invokevirtual 83, 3) := by decide +kernel
theorem dJ5_append_3fe6f_14 : decode cJ5_append_3fe6f 14 = .ok (.ifCond .eq 31, 3) := by decide +kernel
theorem dJ5_append_3fe6f_17 : decode cJ5_append_3fe6f 17 = .ok (.iload_n 1, 1) := by decide +kernel
theorem dJ5_append_3fe6f_18 : decode cJ5_append_3fe6f 18 = .ok (.invokestatic 191, 3) := by decide +kernel
theorem dJ5_append_3fe6f_21 : decode cJ5_append_3fe6f 21 = .ok (.ifCond .eq 24, 3) := by decide +kernel
theorem dJ5_append_3fe6f_24 : decode cJ5_append_3fe6f 24 = .ok (.aload_n 0, 1) := by decide +kernel
theorem dJ5_append_3fe6f_25 : decode cJ5_append_3fe6f 25 = .ok (.getfield 15, 3) := by decide +kernel
theorem dJ5_append_3fe6f_28 : decode cJ5_append_3fe6f 28 = .ok (.aload_n 0, 1) := by decide +kernel
theorem dJ5_append_3fe6f_29 : decode cJ5_append_3fe6f 29 = .ok (.dup, 1) := by decide +kernel
theorem dJ5_append_3fe6f_30 : decode cJ5_append_3fe6f 30 = .ok (.getfield 79, 3) := by decide +kernel
theorem dJ5_append_3fe6f_33 : decode cJ5_append_3fe6f 33 = .ok (.dup_x1, 1) := by decide +kernel
theorem dJ5_append_3fe6f_34 : decode cJ5_append_3fe6f 34 = .ok (.iconst 1, 1) := by decide +kernel
theorem dJ5_append_3fe6f_35 : decode cJ5_append_3fe6f 35 = .ok (.iadd, 1) := by decide +kernel
theorem dJ5_append_3fe6f_36 : decode cJ5_append_3fe6f 36 = .ok (.putfield 79, 3) := by decide +kernel
theorem dJ5_append_3fe6f_39 : decode cJ5_append_3fe6f 39 = .ok (.iload_n 1, 1) := by decide +kernel
theorem dJ5_append_3fe6f_40 : decode cJ5_append_3fe6f 40 = .ok (.i2b, 1) := by decide +kernel
theorem dJ5_append_3fe6f_41 : decode cJ5_append_3fe6f 41 = .ok (.bastore, 1) := by decide +kernel
theorem dJ5_append_3fe6f_42 : decode cJ5_append_3fe6f 42 = .ok (.goto 33, 3) := by decide +kernel
theorem dJ5_append_3fe6f_45 : decode cJ5_append_3fe6f 45 = .ok (.aload_n 0, 1) := by decide +kernel
theorem dJ5_append_3fe6f_46 : decode cJ5_append_3fe6f 46 = .ok (.invokevirtual 83, 3) := by decide +kernel
theorem dJ5_append_3fe6f_49 : decode cJ5_append_3fe6f 49 = .ok (.ifCond .eq 7, 3) := by decide +kernel
theorem dJ5_append_3fe6f_52 : decode cJ5_append_3fe6f 52 = .ok (.aload_n 0, 1) := by decide +kernel
theorem dJ5_append_3fe6f_53 : decode cJ5_append_3fe6f 53 = .ok (.invokevirtual 195, 3) := by decide +kernel
theorem dJ5_append_3fe6f_56 : decode cJ5_append_3fe6f 56 = .ok (.aload_n 0, 1) := by decide +kernel
theorem dJ5_append_3fe6f_57 : decode cJ5_append_3fe6f 57 = .ok (.getfield 15, 3) := by decide +kernel
theorem dJ5_append_3fe6f_60 : decode cJ5_append_3fe6f 60 = .ok (.aload_n 0, 1) := by decide +kernel
theorem dJ5_append_3fe6f_61 : decode cJ5_append_3fe6f 61 = .ok (.dup, 1) := by decide +kernel
theorem dJ5_append_3fe6f_62 : decode cJ5_append_3fe6f 62 = .ok (.getfield 79, 3) := by decide +kernel
theorem dJ5_append_3fe6f_65 : decode cJ5_append_3fe6f 65 = .ok (.dup_x1, 1) := by decide +kernel
theorem dJ5_append_3fe6f_66 : decode cJ5_append_3fe6f 66 = .ok (.iconst 1, 1) := by decide +kernel
theorem dJ5_append_3fe6f_67 : decode cJ5_append_3fe6f 67 = .ok (.iadd, 1) := by decide +kernel
theorem dJ5_append_3fe6f_68 : decode cJ5_append_3fe6f 68 = .ok (.putfield 79, 3) := by decide +kernel
theorem dJ5_append_3fe6f_71 : decode cJ5_append_3fe6f 71 = .ok (.iload_n 1, 1) := by decide +kernel
theorem dJ5_append_3fe6f_72 : decode cJ5_append_3fe6f 72 = .ok (.invokestatic 197, 3) := by decide +kernel
theorem dJ5_append_3fe6f_75 : decode cJ5_append_3fe6f 75 = .ok (.aload_n 0, 1) := by decide +kernel
theorem dJ5_append_3fe6f_76 : decode cJ5_append_3fe6f 76 = .ok (.areturn, 1) := by decide +kernel
theorem dJ5_append_c97b9_0 : decode cJ5_append_c97b9 0 = .ok (.aload_n 0, 1) := by decide +kernel
theorem dJ5_append_c97b9_1 : decode cJ5_append_c97b9 1 = .ok (.getfield 79, 3) := by decide +kernel
theorem dJ5_append_c97b9_4 : decode cJ5_append_c97b9 4 = .ok (.istore_n 2, 1) := by decide +kernel
theorem dJ5_append_c97b9_5 : decode cJ5_append_c97b9 5 = .ok (.iload_n 2, 1) := by decide +kernel
theorem dJ5_append_c97b9_6 : decode cJ5_append_c97b9 6 = .ok (.iload_n 1, 1) := by decide +kernel
theorem dJ5_append_c97b9_7 : decode cJ5_append_c97b9 7 = .ok (.invokestatic 245, 3) := by decide +kernel
theorem dJ5_append_c97b9_10 : decode cJ5_append_c97b9 10 = .ok (.iadd, 1) := by decide +kernel
theorem dJ5_append_c97b9_11 : decode cJ5_append_c97b9 11 = .ok (.istore_n 3, 1) := by decide +kernel
theorem dJ5_append_c97b9_12 : decode cJ5_append_c97b9 12 = .ok (.aload_n 0, 1) := by decide +kernel
theorem dJ5_append_c97b9_13 : decode cJ5_append_c97b9 13 = .ok (.iload_n 3, 1) := by decide +kernel
theorem dJ5_append_c97b9_14 : decode cJ5_append_c97b9 14 = .ok (.invokevirtual 100, 3) := by decide +kernel
theorem dJ5_append_c97b9_17 : decode cJ5_append_c97b9 17 = .ok (.aload_n 0, 1) := by decide +kernel
theorem dJ5_append_c97b9_18 : decode cJ5_append_c97b9 18 = .ok (.invokevirtual 83, 3) := by decide +kernel
theorem dJ5_append_c97b9_21 : decode cJ5_append_c97b9 21 = .ok (.ifCond .eq 16, 3) := by decide +kernel
theorem dJ5_append_c97b9_24 : decode cJ5_append_c97b9 24 = .ok (.iload_n 1, 1) := by decide +kernel
theorem dJ5_append_c97b9_25 : decode cJ5_append_c97b9 25 = .ok (.iload_n 3, 1) := by decide +kernel
theorem dJ5_append_c97b9_26 : decode cJ5_append_c97b9 26 = .ok (.aload_n 0, 1) := by decide +kernel
theorem dJ5_append_c97b9_27 : decode cJ5_append_c97b9 27 = .ok (.getfield 15, 3) := by decide +kernel
theorem dJ5_append_c97b9_30 : decode cJ5_append_c97b9 30 = .ok (.invokestatic 248, 3) := by decide +kernel
theorem dJ5_append_c97b9_33 : decode cJ5_append_c97b9 33 = .ok (.pop, 1) := by decide +kernel
theorem dJ5_append_c97b9_34 : decode cJ5_append_c97b9 34 = .ok (.goto 14, 3) := by decide +kernel
theorem dJ5_append_c97b9_37 : decode cJ5_append_c97b9 37 = .ok (.iload_n 1, 1) := by decide +kernel
theorem dJ5_append_c97b9_38 : decode cJ5_append_c97b9 38 = .ok (.iload_n 2, 1) := by decide +kernel
theorem dJ5_append_c97b9_39 : decode cJ5_append_c97b9 39 = .ok (.iload_n 3, 1) := by decide +kernel
theorem dJ5_append_c97b9_40 : decode cJ5_append_c97b9 40 = .ok (.aload_n 0, 1) := by decide +kernel
theorem dJ5_append_c97b9_41 : decode cJ5_append_c97b9 41 = .ok (.getfield 15, 3) := by decide +kernel
theorem dJ5_append_c97b9_44 : decode cJ5_append_c97b9 44 = .ok (.invokestatic 251, 3) := by decide +kernel
theorem dJ5_append_c97b9_47 : decode cJ5_append_c97b9 47 = .ok (.pop, 1) := by decide +kernel
theorem dJ5_append_c97b9_48 : decode cJ5_append_c97b9 48 = .ok (.aload_n 0, 1) := by decide +kernel
theorem dJ5_append_c97b9_49 : decode cJ5_append_c97b9 49 = .ok (.iload_n 3, 1) := by decide +kernel
theorem dJ5_append_c97b9_50 : decode cJ5_append_c97b9 50 = .ok (.putfield 79, 3) := by decide +kernel
theorem dJ5_append_c97b9_53 : decode cJ5_append_c97b9 53 = .ok (.aload_n 0, 1) := by decide +kernel
theorem dJ5_append_c97b9_54 : decode cJ5_append_c97b9 54 = .ok (.areturn, 1) := by decide +kernel
theorem dJ5_getValue_6d5f1_0 : decode cJ5_getValue_6d5f1 0 = .ok (.aload_n 0, 1) := by decide +kernel
theorem dJ5_getValue_6d5f1_1 : decode cJ5_getValue_6d5f1 1 = .ok (.getfield 15, 3) := by decide +kernel
theorem dJ5_getValue_6d5f1_4 : decode cJ5_getValue_6d5f1 4 = .ok (.areturn, 1) := by decide +kernel
theorem dJ5_isLatin1_aae02_0 : decode cJ5_isLatin1_aae02 0 = .ok (.getstatic 18, 3) := by decide +kernel
theorem dJ5_isLatin1_aae02_3 : decode cJ5_isLatin1_aae02 3 = .ok (.ifCond .eq 14, 3) := by decide +kernel
theorem dJ5_isLatin1_aae02_6 : decode cJ5_isLatin1_aae02 6 = .ok (.aload_n 0, 1) := by decide +kernel
theorem dJ5_isLatin1_aae02_7 : decode cJ5_isLatin1_aae02 7 = .ok (.getfield 22, 3) := by decide +kernel
theorem dJ5_isLatin1_aae02_10 : decode cJ5_isLatin1_aae02 10 = .ok (.ifCond .ne 7, 3) := by decide +kernel
theorem dJ5_isLatin1_aae02_13 : decode cJ5_isLatin1_aae02 13 = .ok (.iconst 1, 1) := by decide +kernel
theorem dJ5_isLatin1_aae02_14 : decode cJ5_isLatin1_aae02 14 = .ok (.goto 4, 3) := by decide +kernel
theorem dJ5_isLatin1_aae02_17 : decode cJ5_isLatin1_aae02 17 = .ok (.iconst 0, 1) := by decide +kernel
theorem dJ5_isLatin1_aae02_18 : decode cJ5_isLatin1_aae02 18 = .ok (.ireturn, 1) := by decide +kernel
theorem dJ5_inflateIfNeededFor_a7421_0 : decode cJ5_inflateIfNeededFor_a7421 0 = .ok (.getstatic 18, 3) := by decide +kernel
theorem dJ5_inflateIfNeededFor_a7421_3 : decode cJ5_inflateIfNeededFor_a7421 3 = .ok (.ifCond .eq 18, 3) := by decide +kernel
theorem dJ5_inflateIfNeededFor_a7421_6 : decode cJ5_inflateIfNeededFor_a7421 6 = .ok (.aload_n 0, 1) := by decide +kernel
theorem dJ5_inflateIfNeededFor_a7421_7 : decode cJ5_inflateIfNeededFor_a7421 7 = .ok (.getfield 22, 3) := by decide +kernel
theorem dJ5_inflateIfNeededFor_a7421_10 : decode cJ5_inflateIfNeededFor_a7421 10 = .ok (.aload_n 1, 1) := by decide +kernel
theorem dJ5_inflateIfNeededFor_a7421_11 : decode cJ5_inflateIfNeededFor_a7421 11 = .ok (.invokevirtual 40, 3) := by decide +kernel
theorem dJ5_inflateIfNeededFor_a7421_14 : decode cJ5_inflateIfNeededFor_a7421 14 = .ok (.if_icmp .eq 7, 3) := by decide +kernel
theorem dJ5_inflateIfNeededFor_a7421_17 : decode cJ5_inflateIfNeededFor_a7421 17 = .ok (.aload_n 0, 1) := by decide +kernel
theorem dJ5_inflateIfNeededFor_a7421_18 : decode cJ5_inflateIfNeededFor_a7421 18 = .ok (.invokevirtual 195, 3) := by decide +kernel
theorem dJ5_inflateIfNeededFor_a7421_21 : decode cJ5_inflateIfNeededFor_a7421 21 = .ok (.return_, 1) := by decide +kernel
theorem dJ5_putStringAt_47b60_0 : decode cJ5_putStringAt_47b60 0 = .ok (.aload_n 0, 1) := by decide +kernel
theorem dJ5_putStringAt_47b60_1 : decode cJ5_putStringAt_47b60 1 = .ok (.aload_n 2, 1) := by decide +kernel
theorem dJ5_putStringAt_47b60_2 : decode cJ5_putStringAt_47b60 2 = .ok (.invokevirtual 397, 3) := by decide +kernel
theorem dJ5_putStringAt_47b60_5 : decode cJ5_putStringAt_47b60 5 = .ok (.aload_n 2, 1) := by decide +kernel
theorem dJ5_putStringAt_47b60_6 : decode cJ5_putStringAt_47b60 6 = .ok (.aload_n 0, 1) := by decide +kernel
theorem dJ5_putStringAt_47b60_7 : decode cJ5_putStringAt_47b60 7 = .ok (.getfield 15, 3) := by decide +kernel
theorem dJ5_putStringAt_47b60_10 : decode cJ5_putStringAt_47b60 10 = .ok (.iload_n 1, 1) := by decide +kernel
theorem dJ5_putStringAt_47b60_11 : decode cJ5_putStringAt_47b60 11 = .ok (.aload_n 0, 1) := by decide +kernel
theorem dJ5_putStringAt_47b60_12 : decode cJ5_putStringAt_47b60 12 = .ok (.getfield 22, 3) := by decide +kernel
theorem dJ5_putStringAt_47b60_15 : decode cJ5_putStringAt_47b60 15 = .ok (.invokevirtual 399, 3) := by decide +kernel
theorem dJ5_putStringAt_47b60_18 : decode cJ5_putStringAt_47b60 18 = .ok (.return_, 1) := by decide +kernel
theorem dJx00060_init_a7421_0 : decode cJx00060_init_a7421 0 = .ok (.aload_n 0, 1) := by decide +kernel
theorem dJx00060_init_a7421_1 : decode cJx00060_init_a7421 1 = .ok (.aload_n 1, 1) := by decide +kernel
theorem dJx00060_init_a7421_2 : decode cJx00060_init_a7421 2 = .ok (.invokespecial 7, 3) := by decide +kernel
theorem dJx00060_init_a7421_5 : decode cJx00060_init_a7421 5 = .ok (.return_, 1) := by decide +kernel
theorem dJx00060_init_d00df_0 : decode cJx00060_init_d00df 0 = .ok (.aload_n 0, 1) := by decide +kernel
theorem dJx00060_init_d00df_1 : decode cJx00060_init_d00df 1 = .ok (.new 10, 3) := by decide +kernel
theorem dJx00060_init_d00df_4 : decode cJx00060_init_d00df 4 = .ok (.dup, 1) := by decide +kernel
theorem dJx00060_init_d00df_5 : decode cJx00060_init_d00df 5 = .ok (.invokespecial 12, 3) := by decide +kernel
theorem dJx00060_init_d00df_8 : decode cJx00060_init_d00df 8 = .ok (.ldc 13, 2) := by decide +kernel
theorem dJx00060_init_d00df_10 : decode cJx00060_init_d00df 10 = .ok (.invokevirtual 15, 3) := by decide +kernel
theorem dJx00060_init_d00df_13 : decode cJx00060_init_d00df 13 = .ok (.iload_n 1, 1) := by decide +kernel
theorem dJx00060_init_d00df_14 : decode cJx00060_init_d00df 14 = .ok (.invokevirtual 19, 3) := by decide +kernel
theorem dJx00060_init_d00df_17 : decode cJx00060_init_d00df 17 = .ok (.invokevirtual 22, 3) := by decide +kernel
theorem dJx00060_init_d00df_20 : decode cJx00060_init_d00df 20 = .ok (.invokespecial 7, 3) := by decide +kernel
theorem dJx00060_init_d00df_23 : decode cJx00060_init_d00df 23 = .ok (.return_, 1) := by decide +kernel
theorem dJ6_getChars_ba4f3_0 : decode cJ6_getChars_ba4f3 0 = .ok (.iload_n 1, 1) := by decide +kernel
theorem dJ6_getChars_ba4f3_1 : decode cJ6_getChars_ba4f3 1 = .ok (.istore 5, 2) := by decide +kernel
theorem dJ6_getChars_ba4f3_3 : decode cJ6_getChars_ba4f3 3 = .ok (.iload_n 0, 1) := by decide +kernel
theorem dJ6_getChars_ba4f3_4 : decode cJ6_getChars_ba4f3 4 = .ok (.ifCond .ge 7, 3) := by decide +kernel
theorem dJ6_getChars_ba4f3_7 : decode cJ6_getChars_ba4f3 7 = .ok (.iconst 1, 1) := by decide +kernel
theorem dJ6_getChars_ba4f3_8 : decode cJ6_getChars_ba4f3 8 = .ok (.goto 4, 3) := by decide +kernel
theorem dJ6_getChars_ba4f3_11 : decode cJ6_getChars_ba4f3 11 = .ok (.iconst 0, 1) := by decide +kernel
theorem dJ6_getChars_ba4f3_12 : decode cJ6_getChars_ba4f3 12 = .ok (.istore 6, 2) := by decide +kernel
theorem dJ6_getChars_ba4f3_14 : decode cJ6_getChars_ba4f3 14 = .ok (.iload 6, 2) := by decide +kernel
theorem dJ6_getChars_ba4f3_16 : decode cJ6_getChars_ba4f3 16 = .ok (.ifCond .ne 6, 3) := by decide +kernel
theorem dJ6_getChars_ba4f3_19 : decode cJ6_getChars_ba4f3 19 = .ok (.iload_n 0, 1) := by decide +kernel
theorem dJ6_getChars_ba4f3_20 : decode cJ6_getChars_ba4f3 20 = .ok (.ineg, 1) := by decide +kernel
theorem dJ6_getChars_ba4f3_21 : decode cJ6_getChars_ba4f3 21 = .ok (.istore_n 0, 1) := by decide +kernel
theorem dJ6_getChars_ba4f3_22 : decode cJ6_getChars_ba4f3 22 = .ok (.iload_n 0, 1) := by decide +kernel
theorem dJ6_getChars_ba4f3_23 : decode cJ6_getChars_ba4f3 23 = .ok (.bipush (-100), 2) := by decide +kernel
theorem dJ6_getChars_ba4f3_25 : decode cJ6_getChars_ba4f3 25 = .ok (.if_icmp .gt 47, 3) := by decide +kernel
theorem dJ6_getChars_ba4f3_28 : decode cJ6_getChars_ba4f3 28 = .ok (.iload_n 0, 1) := by decide +kernel
theorem dJ6_getChars_ba4f3_29 : decode cJ6_getChars_ba4f3 29 = .ok (.bipush 100, 2) := by decide +kernel
theorem dJ6_getChars_ba4f3_31 : decode cJ6_getChars_ba4f3 31 = .ok (.idiv, 1) := by decide +kernel
theorem dJ6_getChars_ba4f3_32 : decode cJ6_getChars_ba4f3 32 = .ok (.istore_n 3, 1) := by decide +kernel
theorem dJ6_getChars_ba4f3_33 : decode cJ6_getChars_ba4f3 33 = .ok (.iload_n 3, 1) := by decide +kernel
theorem dJ6_getChars_ba4f3_34 : decode cJ6_getChars_ba4f3 34 = .ok (.bipush 100, 2) := by decide +kernel
theorem dJ6_getChars_ba4f3_36 : decode cJ6_getChars_ba4f3 36 = .ok (.imul, 1) := by decide +kernel
theorem dJ6_getChars_ba4f3_37 : decode cJ6_getChars_ba4f3 37 = .ok (.iload_n 0, 1) := by decide +kernel
theorem dJ6_getChars_ba4f3_38 : decode cJ6_getChars_ba4f3 38 = .ok (.isub, 1) := by decide +kernel
theorem dJ6_getChars_ba4f3_39 : decode cJ6_getChars_ba4f3 39 = .ok (.istore 4, 2) := by decide +kernel
theorem dJ6_getChars_ba4f3_41 : decode cJ6_getChars_ba4f3 41 = .ok (.iload_n 3, 1) := by decide +kernel
theorem dJ6_getChars_ba4f3_42 : decode cJ6_getChars_ba4f3 42 = .ok (.istore_n 0, 1) := by decide +kernel
theorem dJ6_getChars_ba4f3_43 : decode cJ6_getChars_ba4f3 43 = .ok (.aload_n 2, 1) := by decide +kernel
theorem dJ6_getChars_ba4f3_44 : decode cJ6_getChars_ba4f3 44 = .ok (.iinc 5 (-1), 3) := by decide +kernel
theorem dJ6_getChars_ba4f3_47 : decode cJ6_getChars_ba4f3 47 = .ok (.iload 5, 2) := by decide +kernel
theorem dJ6_getChars_ba4f3_49 : decode cJ6_getChars_ba4f3 49 = .ok (.getstatic 83, 3) := by decide +kernel
theorem dJ6_getChars_ba4f3_52 : decode cJ6_getChars_ba4f3 52 = .ok (.iload 4, 2) := by decide +kernel
theorem dJ6_getChars_ba4f3_54 : decode cJ6_getChars_ba4f3 54 = .ok (.baload, 1) := by decide +kernel
theorem dJ6_getChars_ba4f3_55 : decode cJ6_getChars_ba4f3 55 = .ok (.bastore, 1) := by decide +kernel
theorem dJ6_getChars_ba4f3_56 : decode cJ6_getChars_ba4f3 56 = .ok (.aload_n 2, 1) := by decide +kernel
theorem dJ6_getChars_ba4f3_57 : decode cJ6_getChars_ba4f3 57 = .ok (.iinc 5 (-1), 3) := by decide +kernel
theorem dJ6_getChars_ba4f3_60 : decode cJ6_getChars_ba4f3 60 = .ok (.iload 5, 2) := by decide +kernel
theorem dJ6_getChars_ba4f3_62 : decode cJ6_getChars_ba4f3 62 = .ok (.getstatic 87, 3) := by decide +kernel
theorem dJ6_getChars_ba4f3_65 : decode cJ6_getChars_ba4f3 65 = .ok (.iload 4, 2) := by decide +kernel
theorem dJ6_getChars_ba4f3_67 : decode cJ6_getChars_ba4f3 67 = .ok (.baload, 1) := by decide +kernel
theorem dJ6_getChars_ba4f3_68 : decode cJ6_getChars_ba4f3 68 = .ok (.bastore, 1) := by decide +kernel
theorem dJ6_getChars_ba4f3_69 : decode cJ6_getChars_ba4f3 69 = .ok (.goto (-47), 3) := by decide +kernel
theorem dJ6_getChars_ba4f3_72 : decode cJ6_getChars_ba4f3 72 = .ok (.aload_n 2, 1) := by decide +kernel
theorem dJ6_getChars_ba4f3_73 : decode cJ6_getChars_ba4f3 73 = .ok (.iinc 5 (-1), 3) := by decide +kernel
theorem dJ6_getChars_ba4f3_76 : decode cJ6_getChars_ba4f3 76 = .ok (.iload 5, 2) := by decide +kernel
theorem dJ6_getChars_ba4f3_78 : decode cJ6_getChars_ba4f3 78 = .ok (.getstatic 83, 3) := by decide +kernel
theorem dJ6_getChars_ba4f3_81 : decode cJ6_getChars_ba4f3 81 = .ok (.iload_n 0, 1) := by decide +kernel
theorem dJ6_getChars_ba4f3_82 : decode cJ6_getChars_ba4f3 82 = .ok (.ineg, 1) := by decide +kernel
theorem dJ6_getChars_ba4f3_83 : decode cJ6_getChars_ba4f3 83 = .ok (.baload, 1) := by decide +kernel
theorem dJ6_getChars_ba4f3_84 : decode cJ6_getChars_ba4f3 84 = .ok (.bastore, 1) := by decide +kernel
theorem dJ6_getChars_ba4f3_85 : decode cJ6_getChars_ba4f3 85 = .ok (.iload_n 0, 1) := by decide +kernel
theorem dJ6_getChars_ba4f3_86 : decode cJ6_getChars_ba4f3 86 = .ok (.bipush (-9), 2) := by decide +kernel
theorem dJ6_getChars_ba4f3_88 : decode cJ6_getChars_ba4f3 88 = .ok (.if_icmp .ge 16, 3) := by decide +kernel
theorem dJ6_getChars_ba4f3_91 : decode cJ6_getChars_ba4f3 91 = .ok (.aload_n 2, 1) := by decide +kernel
theorem dJ6_getChars_ba4f3_92 : decode cJ6_getChars_ba4f3 92 = .ok (.iinc 5 (-1), 3) := by decide +kernel
theorem dJ6_getChars_ba4f3_95 : decode cJ6_getChars_ba4f3 95 = .ok (.iload 5, 2) := by decide +kernel
theorem dJ6_getChars_ba4f3_97 : decode cJ6_getChars_ba4f3 97 = .ok (.getstatic 87, 3) := by decide +kernel
theorem dJ6_getChars_ba4f3_100 : decode cJ6_getChars_ba4f3 100 = .ok (.iload_n 0, 1) := by decide +kernel
theorem dJ6_getChars_ba4f3_101 : decode cJ6_getChars_ba4f3 101 = .ok (.ineg, 1) := by decide +kernel
theorem dJ6_getChars_ba4f3_102 : decode cJ6_getChars_ba4f3 102 = .ok (.baload, 1) := by decide +kernel
theorem dJ6_getChars_ba4f3_103 : decode cJ6_getChars_ba4f3 103 = .ok (.bastore, 1) := by decide +kernel
theorem dJ6_getChars_ba4f3_104 : decode cJ6_getChars_ba4f3 104 = .ok (.iload 6, 2) := by decide +kernel
theorem dJ6_getChars_ba4f3_106 : decode cJ6_getChars_ba4f3 106 = .ok (.ifCond .eq 12, 3) := by decide +kernel
theorem dJ6_getChars_ba4f3_109 : decode cJ6_getChars_ba4f3 109 = .ok (.aload_n 2, 1) := by decide +kernel
theorem dJ6_getChars_ba4f3_110 : decode cJ6_getChars_ba4f3 110 = .ok (.iinc 5 (-1), 3) := by decide +kernel
theorem dJ6_getChars_ba4f3_113 : decode cJ6_getChars_ba4f3 113 = .ok (.iload 5, 2) := by decide +kernel
theorem dJ6_getChars_ba4f3_115 : decode cJ6_getChars_ba4f3 115 = .ok (.bipush 45, 2) := by decide +kernel
theorem dJ6_getChars_ba4f3_117 : decode cJ6_getChars_ba4f3 117 = .ok (.bastore, 1) := by decide +kernel
theorem dJ6_getChars_ba4f3_118 : decode cJ6_getChars_ba4f3 118 = .ok (.iload 5, 2) := by decide +kernel
theorem dJ6_getChars_ba4f3_120 : decode cJ6_getChars_ba4f3 120 = .ok (.ireturn, 1) := by decide +kernel
theorem dJ6_stringSize_0f7a4_0 : decode cJ6_stringSize_0f7a4 0 = .ok (.iconst 1, 1) := by decide +kernel
theorem dJ6_stringSize_0f7a4_1 : decode cJ6_stringSize_0f7a4 1 = .ok (.istore_n 1, 1) := by decide +kernel
theorem dJ6_stringSize_0f7a4_2 : decode cJ6_stringSize_0f7a4 2 = .ok (.iload_n 0, 1) := by decide +kernel
theorem dJ6_stringSize_0f7a4_3 : decode cJ6_stringSize_0f7a4 3 = .ok (.ifCond .lt 8, 3) := by decide +kernel
theorem dJ6_stringSize_0f7a4_6 : decode cJ6_stringSize_0f7a4 6 = .ok (.iconst 0, 1) := by decide +kernel
theorem dJ6_stringSize_0f7a4_7 : decode cJ6_stringSize_0f7a4 7 = .ok (.istore_n 1, 1) := by decide +kernel
theorem dJ6_stringSize_0f7a4_8 : decode cJ6_stringSize_0f7a4 8 = .ok (.iload_n 0, 1) := by decide +kernel
theorem dJ6_stringSize_0f7a4_9 : decode cJ6_stringSize_0f7a4 9 = .ok (.ineg, 1) := by decide +kernel
theorem dJ6_stringSize_0f7a4_10 : decode cJ6_stringSize_0f7a4 10 = .ok (.istore_n 0, 1) := by decide +kernel
theorem dJ6_stringSize_0f7a4_11 : decode cJ6_stringSize_0f7a4 11 = .ok (.bipush (-10), 2) := by decide +kernel
theorem dJ6_stringSize_0f7a4_13 : decode cJ6_stringSize_0f7a4 13 = .ok (.istore_n 2, 1) := by decide +kernel
theorem dJ6_stringSize_0f7a4_14 : decode cJ6_stringSize_0f7a4 14 = .ok (.iconst 1, 1) := by decide +kernel
theorem dJ6_stringSize_0f7a4_15 : decode cJ6_stringSize_0f7a4 15 = .ok (.istore_n 3, 1) := by decide +kernel
theorem dJ6_stringSize_0f7a4_16 : decode cJ6_stringSize_0f7a4 16 = .ok (.iload_n 3, 1) := by decide +kernel
theorem dJ6_stringSize_0f7a4_17 : decode cJ6_stringSize_0f7a4 17 = .ok (.bipush 10, 2) := by decide +kernel
theorem dJ6_stringSize_0f7a4_19 : decode cJ6_stringSize_0f7a4 19 = .ok (.if_icmp .ge 23, 3) := by decide +kernel
theorem dJ6_stringSize_0f7a4_22 : decode cJ6_stringSize_0f7a4 22 = .ok (.iload_n 0, 1) := by decide +kernel
theorem dJ6_stringSize_0f7a4_23 : decode cJ6_stringSize_0f7a4 23 = .ok (.iload_n 2, 1) := by decide +kernel
theorem dJ6_stringSize_0f7a4_24 : decode cJ6_stringSize_0f7a4 24 = .ok (.if_icmp .le 7, 3) := by decide +kernel
theorem dJ6_stringSize_0f7a4_27 : decode cJ6_stringSize_0f7a4 27 = .ok (.iload_n 3, 1) := by decide +kernel
theorem dJ6_stringSize_0f7a4_28 : decode cJ6_stringSize_0f7a4 28 = .ok (.iload_n 1, 1) := by decide +kernel
theorem dJ6_stringSize_0f7a4_29 : decode cJ6_stringSize_0f7a4 29 = .ok (.iadd, 1) := by decide +kernel
theorem dJ6_stringSize_0f7a4_30 : decode cJ6_stringSize_0f7a4 30 = .ok (.ireturn, 1) := by decide +kernel
theorem dJ6_stringSize_0f7a4_31 : decode cJ6_stringSize_0f7a4 31 = .ok (.bipush 10, 2) := by decide +kernel
theorem dJ6_stringSize_0f7a4_33 : decode cJ6_stringSize_0f7a4 33 = .ok (.iload_n 2, 1) := by decide +kernel
theorem dJ6_stringSize_0f7a4_34 : decode cJ6_stringSize_0f7a4 34 = .ok (.imul, 1) := by decide +kernel
theorem dJ6_stringSize_0f7a4_35 : decode cJ6_stringSize_0f7a4 35 = .ok (.istore_n 2, 1) := by decide +kernel
theorem dJ6_stringSize_0f7a4_36 : decode cJ6_stringSize_0f7a4 36 = .ok (.iinc 3 1, 3) := by decide +kernel
theorem dJ6_stringSize_0f7a4_39 : decode cJ6_stringSize_0f7a4 39 = .ok (.goto (-23), 3) := by decide +kernel
theorem dJ6_stringSize_0f7a4_42 : decode cJ6_stringSize_0f7a4 42 = .ok (.bipush 10, 2) := by decide +kernel
theorem dJ6_stringSize_0f7a4_44 : decode cJ6_stringSize_0f7a4 44 = .ok (.iload_n 1, 1) := by decide +kernel
theorem dJ6_stringSize_0f7a4_45 : decode cJ6_stringSize_0f7a4 45 = .ok (.iadd, 1) := by decide +kernel
theorem dJ6_stringSize_0f7a4_46 : decode cJ6_stringSize_0f7a4 46 = .ok (.ireturn, 1) := by decide +kernel
theorem dJ6_bitCount_0f7a4_0 : decode cJ6_bitCount_0f7a4 0 = .ok (.iload_n 0, 1) := by decide +kernel
theorem dJ6_bitCount_0f7a4_1 : decode cJ6_bitCount_0f7a4 1 = .ok (.iload_n 0, 1) := by decide +kernel
theorem dJ6_bitCount_0f7a4_2 : decode cJ6_bitCount_0f7a4 2 = .ok (.iconst 1, 1) := by decide +kernel
theorem dJ6_bitCount_0f7a4_3 : decode cJ6_bitCount_0f7a4 3 = .ok (.iushr, 1) := by decide +kernel
theorem dJ6_bitCount_0f7a4_4 : decode cJ6_bitCount_0f7a4 4 = .ok (.ldc_w 265, 3) := by decide +kernel
theorem dJ6_bitCount_0f7a4_7 : decode cJ6_bitCount_0f7a4 7 = .ok (.iand, 1) := by decide +kernel
theorem dJ6_bitCount_0f7a4_8 : decode cJ6_bitCount_0f7a4 8 = .ok (.isub, 1) := by decide +kernel
theorem dJ6_bitCount_0f7a4_9 : decode cJ6_bitCount_0f7a4 9 = .ok (.istore_n 0, 1) := by decide +kernel
theorem dJ6_bitCount_0f7a4_10 : decode cJ6_bitCount_0f7a4 10 = .ok (.iload_n 0, 1) := by decide +kernel
theorem dJ6_bitCount_0f7a4_11 : decode cJ6_bitCount_0f7a4 11 = .ok (.ldc_w 266, 3) := by decide +kernel
theorem dJ6_bitCount_0f7a4_14 : decode cJ6_bitCount_0f7a4 14 = .ok (.iand, 1) := by decide +kernel
theorem dJ6_bitCount_0f7a4_15 : decode cJ6_bitCount_0f7a4 15 = .ok (.iload_n 0, 1) := by decide +kernel
theorem dJ6_bitCount_0f7a4_16 : decode cJ6_bitCount_0f7a4 16 = .ok (.iconst 2, 1) := by decide +kernel
theorem dJ6_bitCount_0f7a4_17 : decode cJ6_bitCount_0f7a4 17 = .ok (.iushr, 1) := by decide +kernel
theorem dJ6_bitCount_0f7a4_18 : decode cJ6_bitCount_0f7a4 18 = .ok (.ldc_w 266, 3) := by decide +kernel
theorem dJ6_bitCount_0f7a4_21 : decode cJ6_bitCount_0f7a4 21 = .ok (.iand, 1) := by decide +kernel
theorem dJ6_bitCount_0f7a4_22 : decode cJ6_bitCount_0f7a4 22 = .ok (.iadd, 1) := by decide +kernel
theorem dJ6_bitCount_0f7a4_23 : decode cJ6_bitCount_0f7a4 23 = .ok (.istore_n 0, 1) := by decide +kernel
theorem dJ6_bitCount_0f7a4_24 : decode cJ6_bitCount_0f7a4 24 = .ok (.iload_n 0, 1) := by decide +kernel
theorem dJ6_bitCount_0f7a4_25 : decode cJ6_bitCount_0f7a4 25 = .ok (.iload_n 0, 1) := by decide +kernel
theorem dJ6_bitCount_0f7a4_26 : decode cJ6_bitCount_0f7a4 26 = .ok (.iconst 4, 1) := by decide +kernel
theorem dJ6_bitCount_0f7a4_27 : decode cJ6_bitCount_0f7a4 27 = .ok (.iushr, 1) := by decide +kernel
theorem dJ6_bitCount_0f7a4_28 : decode cJ6_bitCount_0f7a4 28 = .ok (.iadd, 1) := by decide +kernel
theorem dJ6_bitCount_0f7a4_29 : decode cJ6_bitCount_0f7a4 29 = .ok (.ldc_w 267, 3) := by decide +kernel
theorem dJ6_bitCount_0f7a4_32 : decode cJ6_bitCount_0f7a4 32 = .ok (.iand, 1) := by decide +kernel
theorem dJ6_bitCount_0f7a4_33 : decode cJ6_bitCount_0f7a4 33 = .ok (.istore_n 0, 1) := by decide +kernel
theorem dJ6_bitCount_0f7a4_34 : decode cJ6_bitCount_0f7a4 34 = .ok (.iload_n 0, 1) := by decide +kernel
theorem dJ6_bitCount_0f7a4_35 : decode cJ6_bitCount_0f7a4 35 = .ok (.iload_n 0, 1) := by decide +kernel
theorem dJ6_bitCount_0f7a4_36 : decode cJ6_bitCount_0f7a4 36 = .ok (.bipush 8, 2) := by decide +kernel
theorem dJ6_bitCount_0f7a4_38 : decode cJ6_bitCount_0f7a4 38 = .ok (.iushr, 1) := by decide +kernel
theorem dJ6_bitCount_0f7a4_39 : decode cJ6_bitCount_0f7a4 39 = .ok (.iadd, 1) := by decide +kernel
theorem dJ6_bitCount_0f7a4_40 : decode cJ6_bitCount_0f7a4 40 = .ok (.istore_n 0, 1) := by decide +kernel
theorem dJ6_bitCount_0f7a4_41 : decode cJ6_bitCount_0f7a4 41 = .ok (.iload_n 0, 1) := by decide +kernel
theorem dJ6_bitCount_0f7a4_42 : decode cJ6_bitCount_0f7a4 42 = .ok (.iload_n 0, 1) := by decide +kernel
theorem dJ6_bitCount_0f7a4_43 : decode cJ6_bitCount_0f7a4 43 = .ok (.bipush 16, 2) := by decide +kernel
theorem dJ6_bitCount_0f7a4_45 : decode cJ6_bitCount_0f7a4 45 = .ok (.iushr, 1) := by decide +kernel
theorem dJ6_bitCount_0f7a4_46 : decode cJ6_bitCount_0f7a4 46 = .ok (.iadd, 1) := by decide +kernel
theorem dJ6_bitCount_0f7a4_47 : decode cJ6_bitCount_0f7a4 47 = .ok (.istore_n 0, 1) := by decide +kernel
theorem dJ6_bitCount_0f7a4_48 : decode cJ6_bitCount_0f7a4 48 = .ok (.iload_n 0, 1) := by decide +kernel
theorem dJ6_bitCount_0f7a4_49 : decode cJ6_bitCount_0f7a4 49 = .ok (.bipush 63, 2) := by decide +kernel
theorem dJ6_bitCount_0f7a4_51 : decode cJ6_bitCount_0f7a4 51 = .ok (.iand, 1) := by decide +kernel
theorem dJ6_bitCount_0f7a4_52 : decode cJ6_bitCount_0f7a4 52 = .ok (.ireturn, 1) := by decide +kernel
theorem dJ9_floorMod_7cf53_0 : decode cJ9_floorMod_7cf53 0 = .ok (.iload_n 0, 1) := by decide +kernel
theorem dJ9_floorMod_7cf53_1 : decode cJ9_floorMod_7cf53 1 = .ok (.iload_n 1, 1) := by decide +kernel
theorem dJ9_floorMod_7cf53_2 : decode cJ9_floorMod_7cf53 2 = .ok (.irem, 1) := by decide +kernel
theorem dJ9_floorMod_7cf53_3 : decode cJ9_floorMod_7cf53 3 = .ok (.istore_n 2, 1) := by decide +kernel
theorem dJ9_floorMod_7cf53_4 : decode cJ9_floorMod_7cf53 4 = .ok (.iload_n 0, 1) := by decide +kernel
theorem dJ9_floorMod_7cf53_5 : decode cJ9_floorMod_7cf53 5 = .ok (.iload_n 1, 1) := by decide +kernel
theorem dJ9_floorMod_7cf53_6 : decode cJ9_floorMod_7cf53 6 = .ok (.ixor, 1) := by decide +kernel
theorem dJ9_floorMod_7cf53_7 : decode cJ9_floorMod_7cf53 7 = .ok (.ifCond .ge 11, 3) := by decide +kernel
theorem dJ9_floorMod_7cf53_10 : decode cJ9_floorMod_7cf53 10 = .ok (.iload_n 2, 1) := by decide +kernel
theorem dJ9_floorMod_7cf53_11 : decode cJ9_floorMod_7cf53 11 = .ok (.ifCond .eq 7, 3) := by decide +kernel
theorem dJ9_floorMod_7cf53_14 : decode cJ9_floorMod_7cf53 14 = .ok (.iload_n 2, 1) := by decide +kernel
theorem dJ9_floorMod_7cf53_15 : decode cJ9_floorMod_7cf53 15 = .ok (.iload_n 1, 1) := by decide +kernel
theorem dJ9_floorMod_7cf53_16 : decode cJ9_floorMod_7cf53 16 = .ok (.iadd, 1) := by decide +kernel
theorem dJ9_floorMod_7cf53_17 : decode cJ9_floorMod_7cf53 17 = .ok (.ireturn, 1) := by decide +kernel
theorem dJ9_floorMod_7cf53_18 : decode cJ9_floorMod_7cf53 18 = .ok (.iload_n 2, 1) := by decide +kernel
theorem dJ9_floorMod_7cf53_19 : decode cJ9_floorMod_7cf53 19 = .ok (.ireturn, 1) := by decide +kernel
theorem dJ9_abs_0f7a4_0 : decode cJ9_abs_0f7a4 0 = .ok (.iload_n 0, 1) := by decide +kernel
theorem dJ9_abs_0f7a4_1 : decode cJ9_abs_0f7a4 1 = .ok (.ifCond .ge 8, 3) := by decide +kernel
theorem dJ9_abs_0f7a4_4 : decode cJ9_abs_0f7a4 4 = .ok (.iload_n 0, 1) := by decide +kernel
theorem dJ9_abs_0f7a4_5 : decode cJ9_abs_0f7a4 5 = .ok (.ineg, 1) := by decide +kernel
theorem dJ9_abs_0f7a4_6 : decode cJ9_abs_0f7a4 6 = .ok (.goto 4, 3) := by decide +kernel
theorem dJ9_abs_0f7a4_9 : decode cJ9_abs_0f7a4 9 = .ok (.iload_n 0, 1) := by decide +kernel
theorem dJ9_abs_0f7a4_10 : decode cJ9_abs_0f7a4 10 = .ok (.ireturn, 1) := by decide +kernel
theorem dJ9_max_7cf53_0 : decode cJ9_max_7cf53 0 = .ok (.iload_n 0, 1) := by decide +kernel
theorem dJ9_max_7cf53_1 : decode cJ9_max_7cf53 1 = .ok (.iload_n 1, 1) := by decide +kernel
theorem dJ9_max_7cf53_2 : decode cJ9_max_7cf53 2 = .ok (.if_icmp .lt 7, 3) := by decide +kernel
theorem dJ9_max_7cf53_5 : decode cJ9_max_7cf53 5 = .ok (.iload_n 0, 1) := by decide +kernel
theorem dJ9_max_7cf53_6 : decode cJ9_max_7cf53 6 = .ok (.goto 4, 3) := by decide +kernel
theorem dJ9_max_7cf53_9 : decode cJ9_max_7cf53 9 = .ok (.iload_n 1, 1) := by decide +kernel
theorem dJ9_max_7cf53_10 : decode cJ9_max_7cf53 10 = .ok (.ireturn, 1) := by decide +kernel
theorem dJ9_min_7cf53_0 : decode cJ9_min_7cf53 0 = .ok (.iload_n 0, 1) := by decide +kernel
theorem dJ9_min_7cf53_1 : decode cJ9_min_7cf53 1 = .ok (.iload_n 1, 1) := by decide +kernel
theorem dJ9_min_7cf53_2 : decode cJ9_min_7cf53 2 = .ok (.if_icmp .gt 7, 3) := by decide +kernel
theorem dJ9_min_7cf53_5 : decode cJ9_min_7cf53 5 = .ok (.iload_n 0, 1) := by decide +kernel
theorem dJ9_min_7cf53_6 : decode cJ9_min_7cf53 6 = .ok (.goto 4, 3) := by decide +kernel
theorem dJ9_min_7cf53_9 : decode cJ9_min_7cf53 9 = .ok (.iload_n 1, 1) := by decide +kernel
theorem dJ9_min_7cf53_10 : decode cJ9_min_7cf53 10 = .ok (.ireturn, 1) := by decide +kernel
theorem dJ0_init_81219_0 : decode cJ0_init_81219 0 = .ok (.aload_n 0, 1) := by decide +kernel
theorem dJ0_init_81219_1 : decode cJ0_init_81219 1 = .ok (.aload_n 1, 1) := by decide +kernel
theorem dJ0_init_81219_2 : decode cJ0_init_81219 2 = .ok (.aconst_null, 1) := by decide +kernel
theorem dJ0_init_81219_3 : decode cJ0_init_81219 3 = .ok (.invokespecial 489, 3) := by decide +kernel
theorem dJ0_init_81219_6 : decode cJ0_init_81219 6 = .ok (.return_, 1) := by decide +kernel
theorem dJ0_length_8abf5_0 : decode cJ0_length_8abf5 0 = .ok (.aload_n 0, 1) := by decide +kernel
theorem dJ0_length_8abf5_1 : decode cJ0_length_8abf5 1 = .ok (.getfield 9, 3) := by decide +kernel
theorem dJ0_length_8abf5_4 : decode cJ0_length_8abf5 4 = .ok (.arraylength, 1) := by decide +kernel
theorem dJ0_length_8abf5_5 : decode cJ0_length_8abf5 5 = .ok (.aload_n 0, 1) := by decide +kernel
theorem dJ0_length_8abf5_6 : decode cJ0_length_8abf5 6 = .ok (.invokevirtual 335, 3) := by decide +kernel
theorem dJ0_length_8abf5_9 : decode cJ0_length_8abf5 9 = .ok (.ishr, 1) := by decide +kernel
theorem dJ0_length_8abf5_10 : decode cJ0_length_8abf5 10 = .ok (.ireturn, 1) := by decide +kernel
theorem dJ0_charAt_5068e_0 : decode cJ0_charAt_5068e 0 = .ok (.aload_n 0, 1) := by decide +kernel
theorem dJ0_charAt_5068e_1 : decode cJ0_charAt_5068e 1 = .ok (.invokevirtual 492, 3) := by decide +kernel
theorem dJ0_charAt_5068e_4 : decode cJ0_charAt_5068e 4 = .ok (.ifCond .eq 12, 3) := by decide +kernel
theorem dJ0_charAt_5068e_7 : decode cJ0_charAt_5068e 7 = .ok (.aload_n 0, 1) := by decide +kernel
theorem dJ0_charAt_5068e_8 : decode cJ0_charAt_5068e 8 = .ok (.getfield 9, 3) := by decide +kernel
theorem dJ0_charAt_5068e_11 : decode cJ0_charAt_5068e 11 = .ok (.iload_n 1, 1) := by decide +kernel
theorem dJ0_charAt_5068e_12 : decode cJ0_charAt_5068e 12 = .ok (.invokestatic 495, 3) := by decide +kernel
theorem dJ0_charAt_5068e_15 : decode cJ0_charAt_5068e 15 = .ok (.ireturn, 1) := by decide +kernel
theorem dJ0_charAt_5068e_16 : decode cJ0_charAt_5068e 16 = .ok (.aload_n 0, 1) := by decide +kernel
theorem dJ0_charAt_5068e_17 : decode cJ0_charAt_5068e 17 = .ok (.getfield 9, 3) := by decide +kernel
theorem dJ0_charAt_5068e_20 : decode cJ0_charAt_5068e 20 = .ok (.iload_n 1, 1) := by decide +kernel
theorem dJ0_charAt_5068e_21 : decode cJ0_charAt_5068e 21 = .ok (.invokestatic 498, 3) := by decide +kernel
theorem dJ0_charAt_5068e_24 : decode cJ0_charAt_5068e 24 = .ok (.ireturn, 1) := by decide +kernel
theorem dJ0_getBytes_840e7_0 : decode cJ0_getBytes_840e7 0 = .ok (.aload_n 0, 1) := by decide +kernel
theorem dJ0_getBytes_840e7_1 : decode cJ0_getBytes_840e7 1 = .ok (.invokevirtual 335, 3) := by decide +kernel
theorem dJ0_getBytes_840e7_4 : decode cJ0_getBytes_840e7 4 = .ok (.iload_n 3, 1) := by decide +kernel
theorem dJ0_getBytes_840e7_5 : decode cJ0_getBytes_840e7 5 = .ok (.if_icmp .ne 23, 3) := by decide +kernel
theorem dJ0_getBytes_840e7_8 : decode cJ0_getBytes_840e7 8 = .ok (.aload_n 0, 1) := by decide +kernel
theorem dJ0_getBytes_840e7_9 : decode cJ0_getBytes_840e7 9 = .ok (.getfield 9, 3) := by decide +kernel
theorem dJ0_getBytes_840e7_12 : decode cJ0_getBytes_840e7 12 = .ok (.iconst 0, 1) := by decide +kernel
theorem dJ0_getBytes_840e7_13 : decode cJ0_getBytes_840e7 13 = .ok (.aload_n 1, 1) := by decide +kernel
theorem dJ0_getBytes_840e7_14 : decode cJ0_getBytes_840e7 14 = .ok (.iload_n 2, 1) := by decide +kernel
theorem dJ0_getBytes_840e7_15 : decode cJ0_getBytes_840e7 15 = .ok (.iload_n 3, 1) := by decide +kernel
theorem dJ0_getBytes_840e7_16 : decode cJ0_getBytes_840e7 16 = .ok (.ishl, 1) := by decide +kernel
theorem dJ0_getBytes_840e7_17 : decode cJ0_getBytes_840e7 17 = .ok (.aload_n 0, 1) := by decide +kernel
theorem dJ0_getBytes_840e7_18 : decode cJ0_getBytes_840e7 18 = .ok (.getfield 9, 3) := by decide +kernel
theorem dJ0_getBytes_840e7_21 : decode cJ0_getBytes_840e7 21 = .ok (.arraylength, 1) := by decide +kernel
theorem dJ0_getBytes_840e7_22 : decode cJ0_getBytes_840e7 22 = .ok (.invokestatic 212, 3) := by decide +kernel
theorem dJ0_getBytes_840e7_25 : decode cJ0_getBytes_840e7 25 = .ok (.goto 18, 3) := by decide +kernel
theorem dJ0_getBytes_840e7_28 : decode cJ0_getBytes_840e7 28 = .ok (.aload_n 0, 1) := by decide +kernel
theorem dJ0_getBytes_840e7_29 : decode cJ0_getBytes_840e7 29 = .ok (.getfield 9, 3) := by decide +kernel
theorem dJ0_getBytes_840e7_32 : decode cJ0_getBytes_840e7 32 = .ok (.iconst 0, 1) := by decide +kernel
theorem dJ0_getBytes_840e7_33 : decode cJ0_getBytes_840e7 33 = .ok (.aload_n 1, 1) := by decide +kernel
theorem dJ0_getBytes_840e7_34 : decode cJ0_getBytes_840e7 34 = .ok (.iload_n 2, 1) := by decide +kernel
theorem dJ0_getBytes_840e7_35 : decode cJ0_getBytes_840e7 35 = .ok (.aload_n 0, 1) := by decide +kernel
theorem dJ0_getBytes_840e7_36 : decode cJ0_getBytes_840e7 36 = .ok (.getfield 9, 3) := by decide +kernel
theorem dJ0_getBytes_840e7_39 : decode cJ0_getBytes_840e7 39 = .ok (.arraylength, 1) := by decide +kernel
theorem dJ0_getBytes_840e7_40 : decode cJ0_getBytes_840e7 40 = .ok (.invokestatic 106, 3) := by decide +kernel
theorem dJ0_getBytes_840e7_43 : decode cJ0_getBytes_840e7 43 = .ok (.return_, 1) := by decide +kernel
theorem dJ0_init_db425_0 : decode cJ0_init_db425 0 = .ok (.aload_n 0, 1) := by decide +kernel
theorem dJ0_init_db425_1 : decode cJ0_init_db425 1 = .ok (.invokespecial 1, 3) := by decide +kernel
theorem dJ0_init_db425_4 : decode cJ0_init_db425 4 = .ok (.aload_n 1, 1) := by decide +kernel
theorem dJ0_init_db425_5 : decode cJ0_init_db425 5 = .ok (.invokevirtual 552, 3) := by decide +kernel
theorem dJ0_init_db425_8 : decode cJ0_init_db425 8 = .ok (.astore_n 3, 1) := by decide +kernel
theorem dJ0_init_db425_9 : decode cJ0_init_db425 9 = .ok (.aload_n 1, 1) := by decide +kernel
theorem dJ0_init_db425_10 : decode cJ0_init_db425 10 = .ok (.invokevirtual 549, 3) := by decide +kernel
theorem dJ0_init_db425_13 : decode cJ0_init_db425 13 = .ok (.istore 4, 2) := by decide +kernel
theorem dJ0_init_db425_15 : decode cJ0_init_db425 15 = .ok (.aload_n 1, 1) := by decide +kernel
theorem dJ0_init_db425_16 : decode cJ0_init_db425 16 = .ok (.invokevirtual 1047, 3) := by decide +kernel
theorem dJ0_init_db425_19 : decode cJ0_init_db425 19 = .ok (.ifCond .eq 22, 3) := by decide +kernel
theorem dJ0_init_db425_22 : decode cJ0_init_db425 22 = .ok (.aload_n 0, 1) := by decide +kernel
theorem dJ0_init_db425_23 : decode cJ0_init_db425 23 = .ok (.iconst 0, 1) := by decide +kernel
theorem dJ0_init_db425_24 : decode cJ0_init_db425 24 = .ok (.putfield 15, 3) := by decide +kernel
theorem dJ0_init_db425_27 : decode cJ0_init_db425 27 = .ok (.aload_n 0, 1) := by decide +kernel
theorem dJ0_init_db425_28 : decode cJ0_init_db425 28 = .ok (.aload_n 3, 1) := by decide +kernel
theorem dJ0_init_db425_29 : decode cJ0_init_db425 29 = .ok (.iconst 0, 1) := by decide +kernel
theorem dJ0_init_db425_30 : decode cJ0_init_db425 30 = .ok (.iload 4, 2) := by decide +kernel
theorem dJ0_init_db425_32 : decode cJ0_init_db425 32 = .ok (.invokestatic 54, 3) := by decide +kernel
theorem dJ0_init_db425_35 : decode cJ0_init_db425 35 = .ok (.putfield 9, 3) := by decide +kernel
theorem dJ0_init_db425_38 : decode cJ0_init_db425 38 = .ok (.goto 59, 3) := by decide +kernel
theorem dJ0_init_db425_41 : decode cJ0_init_db425 41 = .ok (.getstatic 38, 3) := by decide +kernel
theorem dJ0_init_db425_44 : decode cJ0_init_db425 44 = .ok (.ifCond .eq 35, 3) := by decide +kernel
theorem dJ0_init_db425_47 : decode cJ0_init_db425 47 = .ok (.aload_n 1, 1) := by decide +kernel
theorem dJ0_init_db425_48 : decode cJ0_init_db425 48 = .ok (.getfield 1048, 3) := by decide +kernel
theorem dJ0_init_db425_51 : decode cJ0_init_db425 51 = .ok (.ifCond .eq 28, 3) := by decide +kernel
theorem dJ0_init_db425_54 : decode cJ0_init_db425 54 = .ok (.aload_n 0, 1) := by decide +kernel
theorem dJ0_init_db425_55 : decode cJ0_init_db425 55 = .ok (.aload_n 3, 1) := by decide +kernel
theorem dJ0_init_db425_56 : decode cJ0_init_db425 56 = .ok (.iconst 0, 1) := by decide +kernel
theorem dJ0_init_db425_57 : decode cJ0_init_db425 57 = .ok (.iload 4, 2) := by decide +kernel
theorem dJ0_init_db425_59 : decode cJ0_init_db425 59 = .ok (.invokestatic 1051, 3) := by decide +kernel
theorem dJ0_init_db425_62 : decode cJ0_init_db425 62 = .ok (.putfield 9, 3) := by decide +kernel
theorem dJ0_init_db425_65 : decode cJ0_init_db425 65 = .ok (.aload_n 0, 1) := by decide +kernel
theorem dJ0_init_db425_66 : decode cJ0_init_db425 66 = .ok (.aload_n 0, 1) := by decide +kernel
theorem dJ0_init_db425_67 : decode cJ0_init_db425 67 = .ok (.getfield 9, 3) := by decide +kernel
theorem dJ0_init_db425_70 : decode cJ0_init_db425 70 = .ok (.iload 4, 2) := by decide +kernel
theorem dJ0_init_db425_72 : decode cJ0_init_db425 72 = .ok (.invokestatic 47, 3) := by decide +kernel
theorem dJ0_init_db425_75 : decode cJ0_init_db425 75 = .ok (.putfield 15, 3) := by decide +kernel
theorem dJ0_init_db425_78 : decode cJ0_init_db425 78 = .ok (.return_, 1) := by decide +kernel
theorem dJ0_init_db425_79 : decode cJ0_init_db425 79 = .ok (.aload_n 0, 1) := by decide +kernel
theorem dJ0_init_db425_80 : decode cJ0_init_db425 80 = .ok (.iconst 1, 1) := by decide +kernel
theorem dJ0_init_db425_81 : decode cJ0_init_db425 81 = .ok (.putfield 15, 3) := by decide +kernel
theorem dJ0_init_db425_84 : decode cJ0_init_db425 84 = .ok (.aload_n 0, 1) := by decide +kernel
theorem dJ0_init_db425_85 : decode cJ0_init_db425 85 = .ok (.aload_n 3, 1) := by decide +kernel
theorem dJ0_init_db425_86 : decode cJ0_init_db425 86 = .ok (.iconst 0, 1) := by decide +kernel
theorem dJ0_init_db425_87 : decode cJ0_init_db425 87 = .ok (.iload 4, 2) := by decide +kernel
theorem dJ0_init_db425_89 : decode cJ0_init_db425 89 = .ok (.iconst 1, 1) := by decide +kernel
theorem dJ0_init_db425_90 : decode cJ0_init_db425 90 = .ok (.ishl, 1) := by decide +kernel
theorem dJ0_init_db425_91 : decode cJ0_init_db425 91 = .ok (.invokestatic 54, 3) := by decide +kernel
theorem dJ0_init_db425_94 : decode cJ0_init_db425 94 = .ok (.putfield 9, 3) := by decide +kernel
theorem dJ0_init_db425_97 : decode cJ0_init_db425 97 = .ok (.return_, 1) := by decide +kernel
theorem dJ0_coder_7d493_0 : decode cJ0_coder_7d493 0 = .ok (.getstatic 38, 3) := by decide +kernel
theorem dJ0_coder_7d493_3 : decode cJ0_coder_7d493 3 = .ok (.ifCond .eq 10, 3) := by decide +kernel
theorem dJ0_coder_7d493_6 : decode cJ0_coder_7d493 6 = .ok (.aload_n 0, 1) := by decide +kernel
theorem dJ0_coder_7d493_7 : decode cJ0_coder_7d493 7 = .ok (.getfield 15, 3) := by decide +kernel
theorem dJ0_coder_7d493_10 : decode cJ0_coder_7d493 10 = .ok (.goto 4, 3) := by decide +kernel
theorem dJ0_coder_7d493_13 : decode cJ0_coder_7d493 13 = .ok (.iconst 1, 1) := by decide +kernel
theorem dJ0_coder_7d493_14 : decode cJ0_coder_7d493 14 = .ok (.ireturn, 1) := by decide +kernel
theorem dJ0_isLatin1_aae02_0 : decode cJ0_isLatin1_aae02 0 = .ok (.getstatic 38, 3) := by decide +kernel
theorem dJ0_isLatin1_aae02_3 : decode cJ0_isLatin1_aae02 3 = .ok (.ifCond .eq 14, 3) := by decide +kernel
theorem dJ0_isLatin1_aae02_6 : decode cJ0_isLatin1_aae02 6 = .ok (.aload_n 0, 1) := by decide +kernel
theorem dJ0_isLatin1_aae02_7 : decode cJ0_isLatin1_aae02 7 = .ok (.getfield 15, 3) := by decide +kernel
theorem dJ0_isLatin1_aae02_10 : decode cJ0_isLatin1_aae02 10 = .ok (.ifCond .ne 7, 3) := by decide +kernel
theorem dJ0_isLatin1_aae02_13 : decode cJ0_isLatin1_aae02 13 = .ok (.iconst 1, 1) := by decide +kernel
theorem dJ0_isLatin1_aae02_14 : decode cJ0_isLatin1_aae02 14 = .ok (.goto 4, 3) := by decide +kernel
theorem dJ0_isLatin1_aae02_17 : decode cJ0_isLatin1_aae02 17 = .ok (.iconst 0, 1) := by decide +kernel
theorem dJ0_isLatin1_aae02_18 : decode cJ0_isLatin1_aae02 18 = .ok (.ireturn, 1) := by decide +kernel
theorem dJ0_checkIndex_df160_0 : decode cJ0_checkIndex_df160 0 = .ok (.iload_n 0, 1) := by decide +kernel
theorem dJ0_checkIndex_df160_1 : decode cJ0_checkIndex_df160 1 = .ok (.iload_n 1, 1) := by decide +kernel
theorem dJ0_checkIndex_df160_2 : decode cJ0_checkIndex_df160 2 = .ok (.getstatic 1053, 3) := by decide +kernel
theorem dJ0_checkIndex_df160_5 : decode cJ0_checkIndex_df160 5 = .ok (.invokestatic 1059, 3) := by decide +kernel
theorem dJ0_checkIndex_df160_8 : decode cJ0_checkIndex_df160 8 = .ok (.pop, 1) := by decide +kernel
theorem dJ0_checkIndex_df160_9 : decode cJ0_checkIndex_df160 9 = .ok (.return_, 1) := by decide +kernel
theorem dJ0_checkBoundsOffCount_cabcc_0 : decode cJ0_checkBoundsOffCount_cabcc 0 = .ok (.iload_n 0, 1) := by decide +kernel
theorem dJ0_checkBoundsOffCount_cabcc_1 : decode cJ0_checkBoundsOffCount_cabcc 1 = .ok (.iload_n 1, 1) := by decide +kernel
theorem dJ0_checkBoundsOffCount_cabcc_2 : decode cJ0_checkBoundsOffCount_cabcc 2 = .ok (.iload_n 2, 1) := by decide +kernel
theorem dJ0_checkBoundsOffCount_cabcc_3 : decode cJ0_checkBoundsOffCount_cabcc 3 = .ok (.getstatic 1053, 3) := by decide +kernel
theorem dJ0_checkBoundsOffCount_cabcc_6 : decode cJ0_checkBoundsOffCount_cabcc 6 = .ok (.invokestatic 1065, 3) := by decide +kernel
theorem dJ0_checkBoundsOffCount_cabcc_9 : decode cJ0_checkBoundsOffCount_cabcc 9 = .ok (.ireturn, 1) := by decide +kernel
theorem dJ0_checkBoundsBeginEnd_23922_0 : decode cJ0_checkBoundsBeginEnd_23922 0 = .ok (.iload_n 0, 1) := by decide +kernel
theorem dJ0_checkBoundsBeginEnd_23922_1 : decode cJ0_checkBoundsBeginEnd_23922 1 = .ok (.iload_n 1, 1) := by decide +kernel
theorem dJ0_checkBoundsBeginEnd_23922_2 : decode cJ0_checkBoundsBeginEnd_23922 2 = .ok (.iload_n 2, 1) := by decide +kernel
theorem dJ0_checkBoundsBeginEnd_23922_3 : decode cJ0_checkBoundsBeginEnd_23922 3 = .ok (.getstatic 1053, 3) := by decide +kernel
theorem dJ0_checkBoundsBeginEnd_23922_6 : decode cJ0_checkBoundsBeginEnd_23922 6 = .ok (.invokestatic 1062, 3) := by decide +kernel
theorem dJ0_checkBoundsBeginEnd_23922_9 : decode cJ0_checkBoundsBeginEnd_23922 9 = .ok (.pop, 1) := by decide +kernel
theorem dJ0_checkBoundsBeginEnd_23922_10 : decode cJ0_checkBoundsBeginEnd_23922 10 = .ok (.return_, 1) := by decide +kernel
theorem dJ4_init_da8c8_0 : decode cJ4_init_da8c8 0 = .ok (.aload_n 0, 1) := by decide +kernel
theorem dJ4_init_da8c8_1 : decode cJ4_init_da8c8 1 = .ok (.bipush 16, 2) := by decide +kernel
theorem dJ4_init_da8c8_3 : decode cJ4_init_da8c8 3 = .ok (.invokespecial 1, 3) := by decide +kernel
theorem dJ4_init_da8c8_6 : decode cJ4_init_da8c8 6 = .ok (.return_, 1) := by decide +kernel
theorem dJ4_append_15ec4_0 : decode cJ4_append_15ec4 0 = .ok (.aload_n 0, 1) := by decide +kernel
theorem dJ4_append_15ec4_1 : decode cJ4_append_15ec4 1 = .ok (.aload_n 1, 1) := by decide +kernel
theorem dJ4_append_15ec4_2 : decode cJ4_append_15ec4 2 = .ok (.invokespecial 29, 3) := by decide +kernel
theorem dJ4_append_15ec4_5 : decode cJ4_append_15ec4 5 = .ok (.pop, 1) := by decide +kernel
theorem dJ4_append_15ec4_6 : decode cJ4_append_15ec4 6 = .ok (.aload_n 0, 1) := by decide +kernel
theorem dJ4_append_15ec4_7 : decode cJ4_append_15ec4 7 = .ok (.areturn, 1) := by decide +kernel
theorem dJ4_append_cf468_0 : decode cJ4_append_cf468 0 = .ok (.aload_n 0, 1) := by decide +kernel
theorem dJ4_append_cf468_1 : decode cJ4_append_cf468 1 = .ok (.iload_n 1, 1) := by decide +kernel
theorem dJ4_append_cf468_2 : decode cJ4_append_cf468 2 = .ok (.invokespecial 50, 3) := by decide +kernel
theorem dJ4_append_cf468_5 : decode cJ4_append_cf468 5 = .ok (.pop, 1) := by decide +kernel
theorem dJ4_append_cf468_6 : decode cJ4_append_cf468 6 = .ok (.aload_n 0, 1) := by decide +kernel
theorem dJ4_append_cf468_7 : decode cJ4_append_cf468 7 = .ok (.areturn, 1) := by decide +kernel
theorem dJ4_append_bf812_0 : decode cJ4_append_bf812 0 = .ok (.aload_n 0, 1) := by decide +kernel
theorem dJ4_append_bf812_1 : decode cJ4_append_bf812 1 = .ok (.iload_n 1, 1) := by decide +kernel
theorem dJ4_append_bf812_2 : decode cJ4_append_bf812 2 = .ok (.invokespecial 53, 3) := by decide +kernel
theorem dJ4_append_bf812_5 : decode cJ4_append_bf812 5 = .ok (.pop, 1) := by decide +kernel
theorem dJ4_append_bf812_6 : decode cJ4_append_bf812 6 = .ok (.aload_n 0, 1) := by decide +kernel
theorem dJ4_append_bf812_7 : decode cJ4_append_bf812 7 = .ok (.areturn, 1) := by decide +kernel
theorem dJ4_toString_0e30d_0 : decode cJ4_toString_0e30d 0 = .ok (.new 18, 3) := by decide +kernel
theorem dJ4_toString_0e30d_3 : decode cJ4_toString_0e30d 3 = .ok (.dup, 1) := by decide +kernel
theorem dJ4_toString_0e30d_4 : decode cJ4_toString_0e30d 4 = .ok (.aload_n 0, 1) := by decide +kernel
theorem dJ4_toString_0e30d_5 : decode cJ4_toString_0e30d 5 = .ok (.invokespecial 137, 3) := by decide +kernel
theorem dJ4_toString_0e30d_8 : decode cJ4_toString_0e30d 8 = .ok (.areturn, 1) := by decide +kernel
theorem dJ4_charAt_5068e_0 : decode cJ4_charAt_5068e 0 = .ok (.aload_n 0, 1) := by decide +kernel
theorem dJ4_charAt_5068e_1 : decode cJ4_charAt_5068e 1 = .ok (.iload_n 1, 1) := by decide +kernel
theorem dJ4_charAt_5068e_2 : decode cJ4_charAt_5068e 2 = .ok (.invokespecial 329, 3) := by decide +kernel
theorem dJ4_charAt_5068e_5 : decode cJ4_charAt_5068e 5 = .ok (.ireturn, 1) := by decide +kernel
theorem dJ4_setLength_d00df_0 : decode cJ4_setLength_d00df 0 = .ok (.aload_n 0, 1) := by decide +kernel
theorem dJ4_setLength_d00df_1 : decode cJ4_setLength_d00df 1 = .ok (.iload_n 1, 1) := by decide +kernel
theorem dJ4_setLength_d00df_2 : decode cJ4_setLength_d00df 2 = .ok (.invokespecial 333, 3) := by decide +kernel
theorem dJ4_setLength_d00df_5 : decode cJ4_setLength_d00df 5 = .ok (.return_, 1) := by decide +kernel
theorem dJ4_length_8abf5_0 : decode cJ4_length_8abf5 0 = .ok (.aload_n 0, 1) := by decide +kernel
theorem dJ4_length_8abf5_1 : decode cJ4_length_8abf5 1 = .ok (.invokespecial 343, 3) := by decide +kernel
theorem dJ4_length_8abf5_4 : decode cJ4_length_8abf5 4 = .ok (.ireturn, 1) := by decide +kernel
theorem dJx7c733_init_d00df_0 : decode cJx7c733_init_d00df 0 = .ok (.aload_n 0, 1) := by decide +kernel
theorem dJx7c733_init_d00df_1 : decode cJx7c733_init_d00df 1 = .ok (.new 10, 3) := by decide +kernel
theorem dJx7c733_init_d00df_4 : decode cJx7c733_init_d00df 4 = .ok (.dup, 1) := by decide +kernel
theorem dJx7c733_init_d00df_5 : decode cJx7c733_init_d00df 5 = .ok (.invokespecial 12, 3) := by decide +kernel
theorem dJx7c733_init_d00df_8 : decode cJx7c733_init_d00df 8 = .ok (.ldc 13, 2) := by decide +kernel
theorem dJx7c733_init_d00df_10 : decode cJx7c733_init_d00df 10 = .ok (.invokevirtual 15, 3) := by decide +kernel
theorem dJx7c733_init_d00df_13 : decode cJx7c733_init_d00df 13 = .ok (.iload_n 1, 1) := by decide +kernel
theorem dJx7c733_init_d00df_14 : decode cJx7c733_init_d00df 14 = .ok (.invokevirtual 19, 3) := by decide +kernel
theorem dJx7c733_init_d00df_17 : decode cJx7c733_init_d00df 17 = .ok (.invokevirtual 22, 3) := by decide +kernel
theorem dJx7c733_init_d00df_20 : decode cJx7c733_init_d00df 20 = .ok (.invokespecial 7, 3) := by decide +kernel
theorem dJx7c733_init_d00df_23 : decode cJx7c733_init_d00df 23 = .ok (.return_, 1) := by decide +kernel
theorem dJ1_charAt_3b067_0 : decode cJ1_charAt_3b067 0 = .ok (.iload_n 1, 1) := by decide +kernel
theorem dJ1_charAt_3b067_1 : decode cJ1_charAt_3b067 1 = .ok (.aload_n 0, 1) := by decide +kernel
theorem dJ1_charAt_3b067_2 : decode cJ1_charAt_3b067 2 = .ok (.arraylength, 1) := by decide +kernel
theorem dJ1_charAt_3b067_3 : decode cJ1_charAt_3b067 3 = .ok (.invokestatic 9, 3) := by decide +kernel
theorem dJ1_charAt_3b067_6 : decode cJ1_charAt_3b067 6 = .ok (.aload_n 0, 1) := by decide +kernel
theorem dJ1_charAt_3b067_7 : decode cJ1_charAt_3b067 7 = .ok (.iload_n 1, 1) := by decide +kernel
theorem dJ1_charAt_3b067_8 : decode cJ1_charAt_3b067 8 = .ok (.baload, 1) := by decide +kernel
theorem dJ1_charAt_3b067_9 : decode cJ1_charAt_3b067 9 = .ok (.sipush 255, 3) := by decide +kernel
theorem dJ1_charAt_3b067_12 : decode cJ1_charAt_3b067 12 = .ok (.iand, 1) := by decide +kernel
theorem dJ1_charAt_3b067_13 : decode cJ1_charAt_3b067 13 = .ok (.i2c, 1) := by decide +kernel
theorem dJ1_charAt_3b067_14 : decode cJ1_charAt_3b067 14 = .ok (.ireturn, 1) := by decide +kernel
theorem dJ1_canEncode_fc78d_0 : decode cJ1_canEncode_fc78d 0 = .ok (.iload_n 0, 1) := by decide +kernel
theorem dJ1_canEncode_fc78d_1 : decode cJ1_canEncode_fc78d 1 = .ok (.sipush 255, 3) := by decide +kernel
theorem dJ1_canEncode_fc78d_4 : decode cJ1_canEncode_fc78d 4 = .ok (.if_icmp .gt 7, 3) := by decide +kernel
theorem dJ1_canEncode_fc78d_7 : decode cJ1_canEncode_fc78d 7 = .ok (.iconst 1, 1) := by decide +kernel
theorem dJ1_canEncode_fc78d_8 : decode cJ1_canEncode_fc78d 8 = .ok (.goto 4, 3) := by decide +kernel
theorem dJ1_canEncode_fc78d_11 : decode cJ1_canEncode_fc78d 11 = .ok (.iconst 0, 1) := by decide +kernel
theorem dJ1_canEncode_fc78d_12 : decode cJ1_canEncode_fc78d 12 = .ok (.ireturn, 1) := by decide +kernel
theorem dJ1_fillNull_b72d1_0 : decode cJ1_fillNull_b72d1 0 = .ok (.aload_n 0, 1) := by decide +kernel
theorem dJ1_fillNull_b72d1_1 : decode cJ1_fillNull_b72d1 1 = .ok (.iload_n 1, 1) := by decide +kernel
theorem dJ1_fillNull_b72d1_2 : decode cJ1_fillNull_b72d1 2 = .ok (.iload_n 2, 1) := by decide +kernel
theorem dJ1_fillNull_b72d1_3 : decode cJ1_fillNull_b72d1 3 = .ok (.iconst 0, 1) := by decide +kernel
theorem dJ1_fillNull_b72d1_4 : decode cJ1_fillNull_b72d1 4 = .ok (.invokestatic 236, 3) := by decide +kernel
theorem dJ1_fillNull_b72d1_7 : decode cJ1_fillNull_b72d1 7 = .ok (.return_, 1) := by decide +kernel
theorem dJ1_inflate_0e8fd_0 : decode cJ1_inflate_0e8fd 0 = .ok (.aload_n 0, 1) := by decide +kernel
theorem dJ1_inflate_0e8fd_1 : decode cJ1_inflate_0e8fd 1 = .ok (.iload_n 1, 1) := by decide +kernel
theorem dJ1_inflate_0e8fd_2 : decode cJ1_inflate_0e8fd 2 = .ok (.aload_n 2, 1) := by decide +kernel
theorem dJ1_inflate_0e8fd_3 : decode cJ1_inflate_0e8fd 3 = .ok (.iload_n 3, 1) := by decide +kernel
theorem dJ1_inflate_0e8fd_4 : decode cJ1_inflate_0e8fd 4 = .ok (.iload 4, 2) := by decide +kernel
theorem dJ1_inflate_0e8fd_6 : decode cJ1_inflate_0e8fd 6 = .ok (.invokestatic 240, 3) := by decide +kernel
theorem dJ1_inflate_0e8fd_9 : decode cJ1_inflate_0e8fd 9 = .ok (.return_, 1) := by decide +kernel
theorem dJ2_newBytesFor_77867_0 : decode cJ2_newBytesFor_77867 0 = .ok (.iload_n 0, 1) := by decide +kernel
theorem dJ2_newBytesFor_77867_1 : decode cJ2_newBytesFor_77867 1 = .ok (.invokestatic 11, 3) := by decide +kernel
theorem dJ2_newBytesFor_77867_4 : decode cJ2_newBytesFor_77867 4 = .ok (.newarray .byte, 2) := by decide +kernel
theorem dJ2_newBytesFor_77867_6 : decode cJ2_newBytesFor_77867 6 = .ok (.areturn, 1) := by decide +kernel
theorem dJ2_newBytesLength_0f7a4_0 : decode cJ2_newBytesLength_0f7a4 0 = .ok (.iload_n 0, 1) := by decide +kernel
theorem dJ2_newBytesLength_0f7a4_1 : decode cJ2_newBytesLength_0f7a4 1 = .ok (.ifCond .ge 11, 3) := by decide +kernel
theorem dJ2_newBytesLength_0f7a4_4 : decode cJ2_newBytesLength_0f7a4 4 = .ok (.new 17, 3) := by decide +kernel
theorem dJ2_newBytesLength_0f7a4_7 : decode cJ2_newBytesLength_0f7a4 7 = .ok (.dup, 1) := by decide +kernel
theorem dJ2_newBytesLength_0f7a4_8 : decode cJ2_newBytesLength_0f7a4 8 = .ok (.invokespecial 19, 3) := by decide +kernel
theorem dJ2_newBytesLength_0f7a4_11 : decode cJ2_newBytesLength_0f7a4 11 = .ok (.athrow, 1) := by decide +kernel
theorem dJ2_newBytesLength_0f7a4_12 : decode cJ2_newBytesLength_0f7a4 12 = .ok (.iload_n 0, 1) := by decide +kernel
theorem dJ2_newBytesLength_0f7a4_13 : decode cJ2_newBytesLength_0f7a4 13 = .ok (.ldc 20, 2) := by decide +kernel
theorem dJ2_newBytesLength_0f7a4_15 : decode cJ2_newBytesLength_0f7a4 15 = .ok (.if_icmp .lt 40, 3) := by decide +kernel
theorem dJ2_newBytesLength_0f7a4_18 : decode cJ2_newBytesLength_0f7a4 18 = .ok (.new 21, 3) := by decide +kernel
theorem dJ2_newBytesLength_0f7a4_21 : decode cJ2_newBytesLength_0f7a4 21 = .ok (.dup, 1) := by decide +kernel
theorem dJ2_newBytesLength_0f7a4_22 : decode cJ2_newBytesLength_0f7a4 22 = .ok (.new 23, 3) := by decide +kernel
theorem dJ2_newBytesLength_0f7a4_25 : decode cJ2_newBytesLength_0f7a4 25 = .ok (.dup, 1) := by decide +kernel
theorem dJ2_newBytesLength_0f7a4_26 : decode cJ2_newBytesLength_0f7a4 26 = .ok (.invokespecial 25, 3) := by decide +kernel
theorem dJ2_newBytesLength_0f7a4_29 : decode cJ2_newBytesLength_0f7a4 29 = .ok (.ldc 26, 2) := by decide +kernel
theorem dJ2_newBytesLength_0f7a4_31 : decode cJ2_newBytesLength_0f7a4 31 = .ok (.invokevirtual 28, 3) := by decide +kernel
theorem dJ2_newBytesLength_0f7a4_34 : decode cJ2_newBytesLength_0f7a4 34 = .ok (.iload_n 0, 1) := by decide +kernel
theorem dJ2_newBytesLength_0f7a4_35 : decode cJ2_newBytesLength_0f7a4 35 = .ok (.invokevirtual 32, 3) := by decide +kernel
theorem dJ2_newBytesLength_0f7a4_38 : decode cJ2_newBytesLength_0f7a4 38 = .ok (.ldc 35, 2) := by decide +kernel
theorem dJ2_newBytesLength_0f7a4_40 : decode cJ2_newBytesLength_0f7a4 40 = .ok (.invokevirtual 28, 3) := by decide +kernel
theorem dJ2_newBytesLength_0f7a4_43 : decode cJ2_newBytesLength_0f7a4 43 = .ok (.ldc 20, 2) := by decide +kernel
theorem dJ2_newBytesLength_0f7a4_45 : decode cJ2_newBytesLength_0f7a4 45 = .ok (.invokevirtual 32, 3) := by decide +kernel
theorem dJ2_newBytesLength_0f7a4_48 : decode cJ2_newBytesLength_0f7a4 48 = .ok (.invokevirtual 37, 3) := by decide +kernel
theorem dJ2_newBytesLength_0f7a4_51 : decode cJ2_newBytesLength_0f7a4 51 = .ok (.invokespecial 41, 3) := by decide +kernel
theorem dJ2_newBytesLength_0f7a4_54 : decode cJ2_newBytesLength_0f7a4 54 = .ok (.athrow, 1) := by decide +kernel
theorem dJ2_newBytesLength_0f7a4_55 : decode cJ2_newBytesLength_0f7a4 55 = .ok (.iload_n 0, 1) := by decide +kernel
theorem dJ2_newBytesLength_0f7a4_56 : decode cJ2_newBytesLength_0f7a4 56 = .ok (.iconst 1, 1) := by decide +kernel
theorem dJ2_newBytesLength_0f7a4_57 : decode cJ2_newBytesLength_0f7a4 57 = .ok (.ishl, 1) := by decide +kernel
theorem dJ2_newBytesLength_0f7a4_58 : decode cJ2_newBytesLength_0f7a4 58 = .ok (.ireturn, 1) := by decide +kernel
theorem dJ2_putChar_b72d1_0 : decode cJ2_putChar_b72d1 0 = .ok (.getstatic 44, 3) := by decide +kernel
theorem dJ2_putChar_b72d1_3 : decode cJ2_putChar_b72d1 3 = .ok (.ifCond .ne 25, 3) := by decide +kernel
theorem dJ2_putChar_b72d1_6 : decode cJ2_putChar_b72d1 6 = .ok (.iload_n 1, 1) := by decide +kernel
theorem dJ2_putChar_b72d1_7 : decode cJ2_putChar_b72d1 7 = .ok (.ifCond .lt 11, 3) := by decide +kernel
theorem dJ2_putChar_b72d1_10 : decode cJ2_putChar_b72d1 10 = .ok (.iload_n 1, 1) := by decide +kernel
theorem dJ2_putChar_b72d1_11 : decode cJ2_putChar_b72d1 11 = .ok (.aload_n 0, 1) := by decide +kernel
theorem dJ2_putChar_b72d1_12 : decode cJ2_putChar_b72d1 12 = .ok (.invokestatic 48, 3) := by decide +kernel
theorem dJ2_putChar_b72d1_15 : decode cJ2_putChar_b72d1 15 = .ok (.if_icmp .lt 13, 3) := by decide +kernel
theorem dJ2_putChar_b72d1_18 : decode cJ2_putChar_b72d1 18 = .ok (.new 52, 3) := by decide +kernel
theorem dJ2_putChar_b72d1_21 : decode cJ2_putChar_b72d1 21 = .ok (.dup, 1) := by decide +kernel
theorem dJ2_putChar_b72d1_22 : decode cJ2_putChar_b72d1 22 = .ok (.ldc 54, 2) := by decide +kernel
theorem dJ2_putChar_b72d1_24 : decode cJ2_putChar_b72d1 24 = .ok (.invokespecial 56, 3) := by decide +kernel
theorem dJ2_putChar_b72d1_27 : decode cJ2_putChar_b72d1 27 = .ok (.athrow, 1) := by decide +kernel
theorem dJ2_putChar_b72d1_28 : decode cJ2_putChar_b72d1 28 = .ok (.iload_n 1, 1) := by decide +kernel
theorem dJ2_putChar_b72d1_29 : decode cJ2_putChar_b72d1 29 = .ok (.iconst 1, 1) := by decide +kernel
theorem dJ2_putChar_b72d1_30 : decode cJ2_putChar_b72d1 30 = .ok (.ishl, 1) := by decide +kernel
theorem dJ2_putChar_b72d1_31 : decode cJ2_putChar_b72d1 31 = .ok (.istore_n 1, 1) := by decide +kernel
theorem dJ2_putChar_b72d1_32 : decode cJ2_putChar_b72d1 32 = .ok (.aload_n 0, 1) := by decide +kernel
theorem dJ2_putChar_b72d1_33 : decode cJ2_putChar_b72d1 33 = .ok (.iload_n 1, 1) := by decide +kernel
theorem dJ2_putChar_b72d1_34 : decode cJ2_putChar_b72d1 34 = .ok (.iinc 1 1, 3) := by decide +kernel
theorem dJ2_putChar_b72d1_37 : decode cJ2_putChar_b72d1 37 = .ok (.iload_n 2, 1) := by decide +kernel
theorem dJ2_putChar_b72d1_38 : decode cJ2_putChar_b72d1 38 = .ok (.getstatic 59, 3) := by decide +kernel
theorem dJ2_putChar_b72d1_41 : decode cJ2_putChar_b72d1 41 = .ok (.ishr, 1) := by decide +kernel
theorem dJ2_putChar_b72d1_42 : decode cJ2_putChar_b72d1 42 = .ok (.i2b, 1) := by decide +kernel
theorem dJ2_putChar_b72d1_43 : decode cJ2_putChar_b72d1 43 = .ok (.bastore, 1) := by decide +kernel
theorem dJ2_putChar_b72d1_44 : decode cJ2_putChar_b72d1 44 = .ok (.aload_n 0, 1) := by decide +kernel
theorem dJ2_putChar_b72d1_45 : decode cJ2_putChar_b72d1 45 = .ok (.iload_n 1, 1) := by decide +kernel
theorem dJ2_putChar_b72d1_46 : decode cJ2_putChar_b72d1 46 = .ok (.iload_n 2, 1) := by decide +kernel
theorem dJ2_putChar_b72d1_47 : decode cJ2_putChar_b72d1 47 = .ok (.getstatic 63, 3) := by decide +kernel
theorem dJ2_putChar_b72d1_50 : decode cJ2_putChar_b72d1 50 = .ok (.ishr, 1) := by decide +kernel
theorem dJ2_putChar_b72d1_51 : decode cJ2_putChar_b72d1 51 = .ok (.i2b, 1) := by decide +kernel
theorem dJ2_putChar_b72d1_52 : decode cJ2_putChar_b72d1 52 = .ok (.bastore, 1) := by decide +kernel
theorem dJ2_putChar_b72d1_53 : decode cJ2_putChar_b72d1 53 = .ok (.return_, 1) := by decide +kernel
theorem dJ2_getChar_3b067_0 : decode cJ2_getChar_3b067 0 = .ok (.getstatic 44, 3) := by decide +kernel
theorem dJ2_getChar_3b067_3 : decode cJ2_getChar_3b067 3 = .ok (.ifCond .ne 25, 3) := by decide +kernel
theorem dJ2_getChar_3b067_6 : decode cJ2_getChar_3b067 6 = .ok (.iload_n 1, 1) := by decide +kernel
theorem dJ2_getChar_3b067_7 : decode cJ2_getChar_3b067 7 = .ok (.ifCond .lt 11, 3) := by decide +kernel
theorem dJ2_getChar_3b067_10 : decode cJ2_getChar_3b067 10 = .ok (.iload_n 1, 1) := by decide +kernel
theorem dJ2_getChar_3b067_11 : decode cJ2_getChar_3b067 11 = .ok (.aload_n 0, 1) := by decide +kernel
theorem dJ2_getChar_3b067_12 : decode cJ2_getChar_3b067 12 = .ok (.invokestatic 48, 3) := by decide +kernel
theorem dJ2_getChar_3b067_15 : decode cJ2_getChar_3b067 15 = .ok (.if_icmp .lt 13, 3) := by decide +kernel
theorem dJ2_getChar_3b067_18 : decode cJ2_getChar_3b067 18 = .ok (.new 52, 3) := by decide +kernel
theorem dJ2_getChar_3b067_21 : decode cJ2_getChar_3b067 21 = .ok (.dup, 1) := by decide +kernel
theorem dJ2_getChar_3b067_22 : decode cJ2_getChar_3b067 22 = .ok (.ldc 54, 2) := by decide +kernel
theorem dJ2_getChar_3b067_24 : decode cJ2_getChar_3b067 24 = .ok (.invokespecial 56, 3) := by decide +kernel
theorem dJ2_getChar_3b067_27 : decode cJ2_getChar_3b067 27 = .ok (.athrow, 1) := by decide +kernel
theorem dJ2_getChar_3b067_28 : decode cJ2_getChar_3b067 28 = .ok (.iload_n 1, 1) := by decide +kernel
theorem dJ2_getChar_3b067_29 : decode cJ2_getChar_3b067 29 = .ok (.iconst 1, 1) := by decide +kernel
theorem dJ2_getChar_3b067_30 : decode cJ2_getChar_3b067 30 = .ok (.ishl, 1) := by decide +kernel
theorem dJ2_getChar_3b067_31 : decode cJ2_getChar_3b067 31 = .ok (.istore_n 1, 1) := by decide +kernel
theorem dJ2_getChar_3b067_32 : decode cJ2_getChar_3b067 32 = .ok (.aload_n 0, 1) := by decide +kernel
theorem dJ2_getChar_3b067_33 : decode cJ2_getChar_3b067 33 = .ok (.iload_n 1, 1) := by decide +kernel
theorem dJ2_getChar_3b067_34 : decode cJ2_getChar_3b067 34 = .ok (.iinc 1 1, 3) := by decide +kernel
theorem dJ2_getChar_3b067_37 : decode cJ2_getChar_3b067 37 = .ok (.baload, 1) := by decide +kernel
theorem dJ2_getChar_3b067_38 : decode cJ2_getChar_3b067 38 = .ok (.sipush 255, 3) := by decide +kernel
theorem dJ2_getChar_3b067_41 : decode cJ2_getChar_3b067 41 = .ok (.iand, 1) := by decide +kernel
theorem dJ2_getChar_3b067_42 : decode cJ2_getChar_3b067 42 = .ok (.getstatic 59, 3) := by decide +kernel
theorem dJ2_getChar_3b067_45 : decode cJ2_getChar_3b067 45 = .ok (.ishl, 1) := by decide +kernel
theorem dJ2_getChar_3b067_46 : decode cJ2_getChar_3b067 46 = .ok (.aload_n 0, 1) := by decide +kernel
theorem dJ2_getChar_3b067_47 : decode cJ2_getChar_3b067 47 = .ok (.iload_n 1, 1) := by decide +kernel
theorem dJ2_getChar_3b067_48 : decode cJ2_getChar_3b067 48 = .ok (.baload, 1) := by decide +kernel
theorem dJ2_getChar_3b067_49 : decode cJ2_getChar_3b067 49 = .ok (.sipush 255, 3) := by decide +kernel
theorem dJ2_getChar_3b067_52 : decode cJ2_getChar_3b067 52 = .ok (.iand, 1) := by decide +kernel
theorem dJ2_getChar_3b067_53 : decode cJ2_getChar_3b067 53 = .ok (.getstatic 63, 3) := by decide +kernel
theorem dJ2_getChar_3b067_56 : decode cJ2_getChar_3b067 56 = .ok (.ishl, 1) := by decide +kernel
theorem dJ2_getChar_3b067_57 : decode cJ2_getChar_3b067 57 = .ok (.ior, 1) := by decide +kernel
theorem dJ2_getChar_3b067_58 : decode cJ2_getChar_3b067 58 = .ok (.i2c, 1) := by decide +kernel
theorem dJ2_getChar_3b067_59 : decode cJ2_getChar_3b067 59 = .ok (.ireturn, 1) := by decide +kernel
theorem dJ2_length_9d52b_0 : decode cJ2_length_9d52b 0 = .ok (.aload_n 0, 1) := by decide +kernel
theorem dJ2_length_9d52b_1 : decode cJ2_length_9d52b 1 = .ok (.arraylength, 1) := by decide +kernel
theorem dJ2_length_9d52b_2 : decode cJ2_length_9d52b 2 = .ok (.iconst 1, 1) := by decide +kernel
theorem dJ2_length_9d52b_3 : decode cJ2_length_9d52b 3 = .ok (.ishr, 1) := by decide +kernel
theorem dJ2_length_9d52b_4 : decode cJ2_length_9d52b 4 = .ok (.ireturn, 1) := by decide +kernel
theorem dJ2_coderFromArrayLen_85cad_0 : decode cJ2_coderFromArrayLen_85cad 0 = .ok (.iload_n 1, 1) := by decide +kernel
theorem dJ2_coderFromArrayLen_85cad_1 : decode cJ2_coderFromArrayLen_85cad 1 = .ok (.aload_n 0, 1) := by decide +kernel
theorem dJ2_coderFromArrayLen_85cad_2 : decode cJ2_coderFromArrayLen_85cad 2 = .ok (.arraylength, 1) := by decide +kernel
theorem dJ2_coderFromArrayLen_85cad_3 : decode cJ2_coderFromArrayLen_85cad 3 = .ok (.isub, 1) := by decide +kernel
theorem dJ2_coderFromArrayLen_85cad_4 : decode cJ2_coderFromArrayLen_85cad 4 = .ok (.bipush 31, 2) := by decide +kernel
theorem dJ2_coderFromArrayLen_85cad_6 : decode cJ2_coderFromArrayLen_85cad 6 = .ok (.iushr, 1) := by decide +kernel
theorem dJ2_coderFromArrayLen_85cad_7 : decode cJ2_coderFromArrayLen_85cad 7 = .ok (.i2b, 1) := by decide +kernel
theorem dJ2_coderFromArrayLen_85cad_8 : decode cJ2_coderFromArrayLen_85cad 8 = .ok (.ireturn, 1) := by decide +kernel
theorem dJ2_compress_39247_0 : decode cJ2_compress_39247 0 = .ok (.iload_n 2, 1) := by decide +kernel
theorem dJ2_compress_39247_1 : decode cJ2_compress_39247 1 = .ok (.newarray .byte, 2) := by decide +kernel
theorem dJ2_compress_39247_3 : decode cJ2_compress_39247 3 = .ok (.astore_n 3, 1) := by decide +kernel
theorem dJ2_compress_39247_4 : decode cJ2_compress_39247 4 = .ok (.aload_n 0, 1) := by decide +kernel
theorem dJ2_compress_39247_5 : decode cJ2_compress_39247 5 = .ok (.iload_n 1, 1) := by decide +kernel
theorem dJ2_compress_39247_6 : decode cJ2_compress_39247 6 = .ok (.aload_n 3, 1) := by decide +kernel
theorem dJ2_compress_39247_7 : decode cJ2_compress_39247 7 = .ok (.iconst 0, 1) := by decide +kernel
theorem dJ2_compress_39247_8 : decode cJ2_compress_39247 8 = .ok (.iload_n 2, 1) := by decide +kernel
theorem dJ2_compress_39247_9 : decode cJ2_compress_39247 9 = .ok (.invokestatic 123, 3) := by decide +kernel
theorem dJ2_compress_39247_12 : decode cJ2_compress_39247 12 = .ok (.istore 4, 2) := by decide +kernel
theorem dJ2_compress_39247_14 : decode cJ2_compress_39247 14 = .ok (.iload 4, 2) := by decide +kernel
theorem dJ2_compress_39247_16 : decode cJ2_compress_39247 16 = .ok (.iload_n 2, 1) := by decide +kernel
theorem dJ2_compress_39247_17 : decode cJ2_compress_39247 17 = .ok (.if_icmp .eq 47, 3) := by decide +kernel
theorem dJ2_compress_39247_20 : decode cJ2_compress_39247 20 = .ok (.aload_n 0, 1) := by decide +kernel
theorem dJ2_compress_39247_21 : decode cJ2_compress_39247 21 = .ok (.iload_n 1, 1) := by decide +kernel
theorem dJ2_compress_39247_22 : decode cJ2_compress_39247 22 = .ok (.iconst 1, 1) := by decide +kernel
theorem dJ2_compress_39247_23 : decode cJ2_compress_39247 23 = .ok (.ishl, 1) := by decide +kernel
theorem dJ2_compress_39247_24 : decode cJ2_compress_39247 24 = .ok (.iload_n 1, 1) := by decide +kernel
theorem dJ2_compress_39247_25 : decode cJ2_compress_39247 25 = .ok (.iload_n 2, 1) := by decide +kernel
theorem dJ2_compress_39247_26 : decode cJ2_compress_39247 26 = .ok (.iadd, 1) := by decide +kernel
theorem dJ2_compress_39247_27 : decode cJ2_compress_39247 27 = .ok (.invokestatic 11, 3) := by decide +kernel
theorem dJ2_compress_39247_30 : decode cJ2_compress_39247 30 = .ok (.invokestatic 126, 3) := by decide +kernel
theorem dJ2_compress_39247_33 : decode cJ2_compress_39247 33 = .ok (.astore 5, 2) := by decide +kernel
theorem dJ2_compress_39247_35 : decode cJ2_compress_39247 35 = .ok (.aload 5, 2) := by decide +kernel
theorem dJ2_compress_39247_37 : decode cJ2_compress_39247 37 = .ok (.iload 4, 2) := by decide +kernel
theorem dJ2_compress_39247_39 : decode cJ2_compress_39247 39 = .ok (.invokestatic 71, 3) := by decide +kernel
theorem dJ2_compress_39247_42 : decode cJ2_compress_39247 42 = .ok (.sipush 255, 3) := by decide +kernel
theorem dJ2_compress_39247_45 : decode cJ2_compress_39247 45 = .ok (.if_icmp .gt 16, 3) := by decide +kernel
theorem dJ2_compress_39247_48 : decode cJ2_compress_39247 48 = .ok (.aload 5, 2) := by decide +kernel
theorem dJ2_compress_39247_50 : decode cJ2_compress_39247 50 = .ok (.iconst 0, 1) := by decide +kernel
theorem dJ2_compress_39247_51 : decode cJ2_compress_39247 51 = .ok (.aload_n 3, 1) := by decide +kernel
theorem dJ2_compress_39247_52 : decode cJ2_compress_39247 52 = .ok (.iconst 0, 1) := by decide +kernel
theorem dJ2_compress_39247_53 : decode cJ2_compress_39247 53 = .ok (.iload_n 2, 1) := by decide +kernel
theorem dJ2_compress_39247_54 : decode cJ2_compress_39247 54 = .ok (.invokestatic 123, 3) := by decide +kernel
theorem dJ2_compress_39247_57 : decode cJ2_compress_39247 57 = .ok (.iload_n 2, 1) := by decide +kernel
theorem dJ2_compress_39247_58 : decode cJ2_compress_39247 58 = .ok (.if_icmp .eq 6, 3) := by decide +kernel
theorem dJ2_compress_39247_61 : decode cJ2_compress_39247 61 = .ok (.aload 5, 2) := by decide +kernel
theorem dJ2_compress_39247_63 : decode cJ2_compress_39247 63 = .ok (.areturn, 1) := by decide +kernel
theorem dJ2_compress_39247_64 : decode cJ2_compress_39247 64 = .ok (.aload_n 3, 1) := by decide +kernel
theorem dJ2_compress_39247_65 : decode cJ2_compress_39247 65 = .ok (.areturn, 1) := by decide +kernel
theorem dJ2_compress_5af95_0 : decode cJ2_compress_5af95 0 = .ok (.iload_n 1, 1) := by decide +kernel
theorem dJ2_compress_5af95_1 : decode cJ2_compress_5af95 1 = .ok (.iload 4, 2) := by decide +kernel
theorem dJ2_compress_5af95_3 : decode cJ2_compress_5af95 3 = .ok (.aload_n 0, 1) := by decide +kernel
theorem dJ2_compress_5af95_4 : decode cJ2_compress_5af95 4 = .ok (.invokestatic 173, 3) := by decide +kernel
theorem dJ2_compress_5af95_7 : decode cJ2_compress_5af95 7 = .ok (.iconst 0, 1) := by decide +kernel
theorem dJ2_compress_5af95_8 : decode cJ2_compress_5af95 8 = .ok (.istore 5, 2) := by decide +kernel
theorem dJ2_compress_5af95_10 : decode cJ2_compress_5af95 10 = .ok (.iload 5, 2) := by decide +kernel
theorem dJ2_compress_5af95_12 : decode cJ2_compress_5af95 12 = .ok (.iload 4, 2) := by decide +kernel
theorem dJ2_compress_5af95_14 : decode cJ2_compress_5af95 14 = .ok (.if_icmp .ge 39, 3) := by decide +kernel
theorem dJ2_compress_5af95_17 : decode cJ2_compress_5af95 17 = .ok (.aload_n 0, 1) := by decide +kernel
theorem dJ2_compress_5af95_18 : decode cJ2_compress_5af95 18 = .ok (.iload_n 1, 1) := by decide +kernel
theorem dJ2_compress_5af95_19 : decode cJ2_compress_5af95 19 = .ok (.invokestatic 71, 3) := by decide +kernel
theorem dJ2_compress_5af95_22 : decode cJ2_compress_5af95 22 = .ok (.istore 6, 2) := by decide +kernel
theorem dJ2_compress_5af95_24 : decode cJ2_compress_5af95 24 = .ok (.iload 6, 2) := by decide +kernel
theorem dJ2_compress_5af95_26 : decode cJ2_compress_5af95 26 = .ok (.sipush 255, 3) := by decide +kernel
theorem dJ2_compress_5af95_29 : decode cJ2_compress_5af95 29 = .ok (.if_icmp .le 6, 3) := by decide +kernel
theorem dJ2_compress_5af95_32 : decode cJ2_compress_5af95 32 = .ok (.iload 5, 2) := by decide +kernel
theorem dJ2_compress_5af95_34 : decode cJ2_compress_5af95 34 = .ok (.ireturn, 1) := by decide +kernel
theorem dJ2_compress_5af95_35 : decode cJ2_compress_5af95 35 = .ok (.aload_n 2, 1) := by decide +kernel
theorem dJ2_compress_5af95_36 : decode cJ2_compress_5af95 36 = .ok (.iload_n 3, 1) := by decide +kernel
theorem dJ2_compress_5af95_37 : decode cJ2_compress_5af95 37 = .ok (.iload 6, 2) := by decide +kernel
theorem dJ2_compress_5af95_39 : decode cJ2_compress_5af95 39 = .ok (.i2b, 1) := by decide +kernel
theorem dJ2_compress_5af95_40 : decode cJ2_compress_5af95 40 = .ok (.bastore, 1) := by decide +kernel
theorem dJ2_compress_5af95_41 : decode cJ2_compress_5af95 41 = .ok (.iinc 1 1, 3) := by decide +kernel
theorem dJ2_compress_5af95_44 : decode cJ2_compress_5af95 44 = .ok (.iinc 3 1, 3) := by decide +kernel
theorem dJ2_compress_5af95_47 : decode cJ2_compress_5af95 47 = .ok (.iinc 5 1, 3) := by decide +kernel
theorem dJ2_compress_5af95_50 : decode cJ2_compress_5af95 50 = .ok (.goto (-40), 3) := by decide +kernel
theorem dJ2_compress_5af95_53 : decode cJ2_compress_5af95 53 = .ok (.iload 4, 2) := by decide +kernel
theorem dJ2_compress_5af95_55 : decode cJ2_compress_5af95 55 = .ok (.ireturn, 1) := by decide +kernel
theorem dJ2_fillNull_b72d1_0 : decode cJ2_fillNull_b72d1 0 = .ok (.aload_n 0, 1) := by decide +kernel
theorem dJ2_fillNull_b72d1_1 : decode cJ2_fillNull_b72d1 1 = .ok (.iload_n 1, 1) := by decide +kernel
theorem dJ2_fillNull_b72d1_2 : decode cJ2_fillNull_b72d1 2 = .ok (.iconst 1, 1) := by decide +kernel
theorem dJ2_fillNull_b72d1_3 : decode cJ2_fillNull_b72d1 3 = .ok (.ishl, 1) := by decide +kernel
theorem dJ2_fillNull_b72d1_4 : decode cJ2_fillNull_b72d1 4 = .ok (.iload_n 2, 1) := by decide +kernel
theorem dJ2_fillNull_b72d1_5 : decode cJ2_fillNull_b72d1 5 = .ok (.iconst 1, 1) := by decide +kernel
theorem dJ2_fillNull_b72d1_6 : decode cJ2_fillNull_b72d1 6 = .ok (.ishl, 1) := by decide +kernel
theorem dJ2_fillNull_b72d1_7 : decode cJ2_fillNull_b72d1 7 = .ok (.iconst 0, 1) := by decide +kernel
theorem dJ2_fillNull_b72d1_8 : decode cJ2_fillNull_b72d1 8 = .ok (.invokestatic 380, 3) := by decide +kernel
theorem dJ2_fillNull_b72d1_11 : decode cJ2_fillNull_b72d1 11 = .ok (.return_, 1) := by decide +kernel
theorem dJ2_putCharSB_b72d1_0 : decode cJ2_putCharSB_b72d1 0 = .ok (.iload_n 1, 1) := by decide +kernel
theorem dJ2_putCharSB_b72d1_1 : decode cJ2_putCharSB_b72d1 1 = .ok (.aload_n 0, 1) := by decide +kernel
theorem dJ2_putCharSB_b72d1_2 : decode cJ2_putCharSB_b72d1 2 = .ok (.invokestatic 67, 3) := by decide +kernel
theorem dJ2_putCharSB_b72d1_5 : decode cJ2_putCharSB_b72d1 5 = .ok (.aload_n 0, 1) := by decide +kernel
theorem dJ2_putCharSB_b72d1_6 : decode cJ2_putCharSB_b72d1 6 = .ok (.iload_n 1, 1) := by decide +kernel
theorem dJ2_putCharSB_b72d1_7 : decode cJ2_putCharSB_b72d1 7 = .ok (.iload_n 2, 1) := by decide +kernel
theorem dJ2_putCharSB_b72d1_8 : decode cJ2_putCharSB_b72d1 8 = .ok (.invokestatic 111, 3) := by decide +kernel
theorem dJ2_putCharSB_b72d1_11 : decode cJ2_putCharSB_b72d1 11 = .ok (.return_, 1) := by decide +kernel
theorem dJ2_getChars_46870_0 : decode cJ2_getChars_46870 0 = .ok (.iload_n 1, 1) := by decide +kernel
theorem dJ2_getChars_46870_1 : decode cJ2_getChars_46870 1 = .ok (.iload_n 2, 1) := by decide +kernel
theorem dJ2_getChars_46870_2 : decode cJ2_getChars_46870 2 = .ok (.aload_n 3, 1) := by decide +kernel
theorem dJ2_getChars_46870_3 : decode cJ2_getChars_46870 3 = .ok (.invokestatic 96, 3) := by decide +kernel
theorem dJ2_getChars_46870_6 : decode cJ2_getChars_46870 6 = .ok (.iload_n 0, 1) := by decide +kernel
theorem dJ2_getChars_46870_7 : decode cJ2_getChars_46870 7 = .ok (.iload_n 2, 1) := by decide +kernel
theorem dJ2_getChars_46870_8 : decode cJ2_getChars_46870 8 = .ok (.aload_n 3, 1) := by decide +kernel
theorem dJ2_getChars_46870_9 : decode cJ2_getChars_46870 9 = .ok (.invokestatic 393, 3) := by decide +kernel
theorem dJ2_getChars_46870_12 : decode cJ2_getChars_46870 12 = .ok (.istore 4, 2) := by decide +kernel
theorem dJ2_getChars_46870_14 : decode cJ2_getChars_46870 14 = .ok (.getstatic 44, 3) := by decide +kernel
theorem dJ2_getChars_46870_17 : decode cJ2_getChars_46870 17 = .ok (.ifCond .ne 17, 3) := by decide +kernel
theorem dJ2_getChars_46870_20 : decode cJ2_getChars_46870 20 = .ok (.iload_n 1, 1) := by decide +kernel
theorem dJ2_getChars_46870_21 : decode cJ2_getChars_46870 21 = .ok (.iload 4, 2) := by decide +kernel
theorem dJ2_getChars_46870_23 : decode cJ2_getChars_46870 23 = .ok (.if_icmp .eq 11, 3) := by decide +kernel
theorem dJ2_getChars_46870_26 : decode cJ2_getChars_46870 26 = .ok (.new 52, 3) := by decide +kernel
theorem dJ2_getChars_46870_29 : decode cJ2_getChars_46870 29 = .ok (.dup, 1) := by decide +kernel
theorem dJ2_getChars_46870_30 : decode cJ2_getChars_46870 30 = .ok (.invokespecial 66, 3) := by decide +kernel
theorem dJ2_getChars_46870_33 : decode cJ2_getChars_46870 33 = .ok (.athrow, 1) := by decide +kernel
theorem dJ2_getChars_46870_34 : decode cJ2_getChars_46870 34 = .ok (.iload 4, 2) := by decide +kernel
theorem dJ2_getChars_46870_36 : decode cJ2_getChars_46870 36 = .ok (.ireturn, 1) := by decide +kernel
theorem dJ2_putCharsAt_cd4e5_0 : decode cJ2_putCharsAt_cd4e5 0 = .ok (.iload_n 1, 1) := by decide +kernel
theorem dJ2_putCharsAt_cd4e5_1 : decode cJ2_putCharsAt_cd4e5 1 = .ok (.iconst 4, 1) := by decide +kernel
theorem dJ2_putCharsAt_cd4e5_2 : decode cJ2_putCharsAt_cd4e5 2 = .ok (.iadd, 1) := by decide +kernel
theorem dJ2_putCharsAt_cd4e5_3 : decode cJ2_putCharsAt_cd4e5 3 = .ok (.istore 6, 2) := by decide +kernel
theorem dJ2_putCharsAt_cd4e5_5 : decode cJ2_putCharsAt_cd4e5 5 = .ok (.iload_n 1, 1) := by decide +kernel
theorem dJ2_putCharsAt_cd4e5_6 : decode cJ2_putCharsAt_cd4e5 6 = .ok (.iload 6, 2) := by decide +kernel
theorem dJ2_putCharsAt_cd4e5_8 : decode cJ2_putCharsAt_cd4e5 8 = .ok (.aload_n 0, 1) := by decide +kernel
theorem dJ2_putCharsAt_cd4e5_9 : decode cJ2_putCharsAt_cd4e5 9 = .ok (.invokestatic 96, 3) := by decide +kernel
theorem dJ2_putCharsAt_cd4e5_12 : decode cJ2_putCharsAt_cd4e5 12 = .ok (.aload_n 0, 1) := by decide +kernel
theorem dJ2_putCharsAt_cd4e5_13 : decode cJ2_putCharsAt_cd4e5 13 = .ok (.iload_n 1, 1) := by decide +kernel
theorem dJ2_putCharsAt_cd4e5_14 : decode cJ2_putCharsAt_cd4e5 14 = .ok (.iinc 1 1, 3) := by decide +kernel
theorem dJ2_putCharsAt_cd4e5_17 : decode cJ2_putCharsAt_cd4e5 17 = .ok (.iload_n 2, 1) := by decide +kernel
theorem dJ2_putCharsAt_cd4e5_18 : decode cJ2_putCharsAt_cd4e5 18 = .ok (.invokestatic 111, 3) := by decide +kernel
theorem dJ2_putCharsAt_cd4e5_21 : decode cJ2_putCharsAt_cd4e5 21 = .ok (.aload_n 0, 1) := by decide +kernel
theorem dJ2_putCharsAt_cd4e5_22 : decode cJ2_putCharsAt_cd4e5 22 = .ok (.iload_n 1, 1) := by decide +kernel
theorem dJ2_putCharsAt_cd4e5_23 : decode cJ2_putCharsAt_cd4e5 23 = .ok (.iinc 1 1, 3) := by decide +kernel
theorem dJ2_putCharsAt_cd4e5_26 : decode cJ2_putCharsAt_cd4e5 26 = .ok (.iload_n 3, 1) := by decide +kernel
theorem dJ2_putCharsAt_cd4e5_27 : decode cJ2_putCharsAt_cd4e5 27 = .ok (.invokestatic 111, 3) := by decide +kernel
theorem dJ2_putCharsAt_cd4e5_30 : decode cJ2_putCharsAt_cd4e5 30 = .ok (.aload_n 0, 1) := by decide +kernel
theorem dJ2_putCharsAt_cd4e5_31 : decode cJ2_putCharsAt_cd4e5 31 = .ok (.iload_n 1, 1) := by decide +kernel
theorem dJ2_putCharsAt_cd4e5_32 : decode cJ2_putCharsAt_cd4e5 32 = .ok (.iinc 1 1, 3) := by decide +kernel
theorem dJ2_putCharsAt_cd4e5_35 : decode cJ2_putCharsAt_cd4e5 35 = .ok (.iload 4, 2) := by decide +kernel
theorem dJ2_putCharsAt_cd4e5_37 : decode cJ2_putCharsAt_cd4e5 37 = .ok (.invokestatic 111, 3) := by decide +kernel
theorem dJ2_putCharsAt_cd4e5_40 : decode cJ2_putCharsAt_cd4e5 40 = .ok (.aload_n 0, 1) := by decide +kernel
theorem dJ2_putCharsAt_cd4e5_41 : decode cJ2_putCharsAt_cd4e5 41 = .ok (.iload_n 1, 1) := by decide +kernel
theorem dJ2_putCharsAt_cd4e5_42 : decode cJ2_putCharsAt_cd4e5 42 = .ok (.iinc 1 1, 3) := by decide +kernel
theorem dJ2_putCharsAt_cd4e5_45 : decode cJ2_putCharsAt_cd4e5 45 = .ok (.iload 5, 2) := by decide +kernel
theorem dJ2_putCharsAt_cd4e5_47 : decode cJ2_putCharsAt_cd4e5 47 = .ok (.invokestatic 111, 3) := by decide +kernel
theorem dJ2_putCharsAt_cd4e5_50 : decode cJ2_putCharsAt_cd4e5 50 = .ok (.getstatic 44, 3) := by decide +kernel
theorem dJ2_putCharsAt_cd4e5_53 : decode cJ2_putCharsAt_cd4e5 53 = .ok (.ifCond .ne 17, 3) := by decide +kernel
theorem dJ2_putCharsAt_cd4e5_56 : decode cJ2_putCharsAt_cd4e5 56 = .ok (.iload_n 1, 1) := by decide +kernel
theorem dJ2_putCharsAt_cd4e5_57 : decode cJ2_putCharsAt_cd4e5 57 = .ok (.iload 6, 2) := by decide +kernel
theorem dJ2_putCharsAt_cd4e5_59 : decode cJ2_putCharsAt_cd4e5 59 = .ok (.if_icmp .eq 11, 3) := by decide +kernel
theorem dJ2_putCharsAt_cd4e5_62 : decode cJ2_putCharsAt_cd4e5 62 = .ok (.new 52, 3) := by decide +kernel
theorem dJ2_putCharsAt_cd4e5_65 : decode cJ2_putCharsAt_cd4e5 65 = .ok (.dup, 1) := by decide +kernel
theorem dJ2_putCharsAt_cd4e5_66 : decode cJ2_putCharsAt_cd4e5 66 = .ok (.invokespecial 66, 3) := by decide +kernel
theorem dJ2_putCharsAt_cd4e5_69 : decode cJ2_putCharsAt_cd4e5 69 = .ok (.athrow, 1) := by decide +kernel
theorem dJ2_putCharsAt_cd4e5_70 : decode cJ2_putCharsAt_cd4e5 70 = .ok (.iload 6, 2) := by decide +kernel
theorem dJ2_putCharsAt_cd4e5_72 : decode cJ2_putCharsAt_cd4e5 72 = .ok (.ireturn, 1) := by decide +kernel
theorem dJ2_charAt_3b067_0 : decode cJ2_charAt_3b067 0 = .ok (.iload_n 1, 1) := by decide +kernel
theorem dJ2_charAt_3b067_1 : decode cJ2_charAt_3b067 1 = .ok (.aload_n 0, 1) := by decide +kernel
theorem dJ2_charAt_3b067_2 : decode cJ2_charAt_3b067 2 = .ok (.invokestatic 67, 3) := by decide +kernel
theorem dJ2_charAt_3b067_5 : decode cJ2_charAt_3b067 5 = .ok (.aload_n 0, 1) := by decide +kernel
theorem dJ2_charAt_3b067_6 : decode cJ2_charAt_3b067 6 = .ok (.iload_n 1, 1) := by decide +kernel
theorem dJ2_charAt_3b067_7 : decode cJ2_charAt_3b067 7 = .ok (.invokestatic 71, 3) := by decide +kernel
theorem dJ2_charAt_3b067_10 : decode cJ2_charAt_3b067 10 = .ok (.ireturn, 1) := by decide +kernel
theorem dJ2_inflate_0e8fd_0 : decode cJ2_inflate_0e8fd 0 = .ok (.iload_n 3, 1) := by decide +kernel
theorem dJ2_inflate_0e8fd_1 : decode cJ2_inflate_0e8fd 1 = .ok (.iload 4, 2) := by decide +kernel
theorem dJ2_inflate_0e8fd_3 : decode cJ2_inflate_0e8fd 3 = .ok (.aload_n 2, 1) := by decide +kernel
theorem dJ2_inflate_0e8fd_4 : decode cJ2_inflate_0e8fd 4 = .ok (.invokestatic 173, 3) := by decide +kernel
theorem dJ2_inflate_0e8fd_7 : decode cJ2_inflate_0e8fd 7 = .ok (.iconst 0, 1) := by decide +kernel
theorem dJ2_inflate_0e8fd_8 : decode cJ2_inflate_0e8fd 8 = .ok (.istore 5, 2) := by decide +kernel
theorem dJ2_inflate_0e8fd_10 : decode cJ2_inflate_0e8fd 10 = .ok (.iload 5, 2) := by decide +kernel
theorem dJ2_inflate_0e8fd_12 : decode cJ2_inflate_0e8fd 12 = .ok (.iload 4, 2) := by decide +kernel
theorem dJ2_inflate_0e8fd_14 : decode cJ2_inflate_0e8fd 14 = .ok (.if_icmp .ge 27, 3) := by decide +kernel
theorem dJ2_inflate_0e8fd_17 : decode cJ2_inflate_0e8fd 17 = .ok (.aload_n 2, 1) := by decide +kernel
theorem dJ2_inflate_0e8fd_18 : decode cJ2_inflate_0e8fd 18 = .ok (.iload_n 3, 1) := by decide +kernel
theorem dJ2_inflate_0e8fd_19 : decode cJ2_inflate_0e8fd 19 = .ok (.iinc 3 1, 3) := by decide +kernel
theorem dJ2_inflate_0e8fd_22 : decode cJ2_inflate_0e8fd 22 = .ok (.aload_n 0, 1) := by decide +kernel
theorem dJ2_inflate_0e8fd_23 : decode cJ2_inflate_0e8fd 23 = .ok (.iload_n 1, 1) := by decide +kernel
theorem dJ2_inflate_0e8fd_24 : decode cJ2_inflate_0e8fd 24 = .ok (.iinc 1 1, 3) := by decide +kernel
theorem dJ2_inflate_0e8fd_27 : decode cJ2_inflate_0e8fd 27 = .ok (.baload, 1) := by decide +kernel
theorem dJ2_inflate_0e8fd_28 : decode cJ2_inflate_0e8fd 28 = .ok (.sipush 255, 3) := by decide +kernel
theorem dJ2_inflate_0e8fd_31 : decode cJ2_inflate_0e8fd 31 = .ok (.iand, 1) := by decide +kernel
theorem dJ2_inflate_0e8fd_32 : decode cJ2_inflate_0e8fd 32 = .ok (.invokestatic 111, 3) := by decide +kernel
theorem dJ2_inflate_0e8fd_35 : decode cJ2_inflate_0e8fd 35 = .ok (.iinc 5 1, 3) := by decide +kernel
theorem dJ2_inflate_0e8fd_38 : decode cJ2_inflate_0e8fd 38 = .ok (.goto (-28), 3) := by decide +kernel
theorem dJ2_inflate_0e8fd_41 : decode cJ2_inflate_0e8fd 41 = .ok (.return_, 1) := by decide +kernel
theorem dJ2_getChars_ba4f3_0 : decode cJ2_getChars_ba4f3 0 = .ok (.iload_n 1, 1) := by decide +kernel
theorem dJ2_getChars_ba4f3_1 : decode cJ2_getChars_ba4f3 1 = .ok (.istore 5, 2) := by decide +kernel
theorem dJ2_getChars_ba4f3_3 : decode cJ2_getChars_ba4f3 3 = .ok (.iload_n 0, 1) := by decide +kernel
theorem dJ2_getChars_ba4f3_4 : decode cJ2_getChars_ba4f3 4 = .ok (.ifCond .ge 7, 3) := by decide +kernel
theorem dJ2_getChars_ba4f3_7 : decode cJ2_getChars_ba4f3 7 = .ok (.iconst 1, 1) := by decide +kernel
theorem dJ2_getChars_ba4f3_8 : decode cJ2_getChars_ba4f3 8 = .ok (.goto 4, 3) := by decide +kernel
theorem dJ2_getChars_ba4f3_11 : decode cJ2_getChars_ba4f3 11 = .ok (.iconst 0, 1) := by decide +kernel
theorem dJ2_getChars_ba4f3_12 : decode cJ2_getChars_ba4f3 12 = .ok (.istore 6, 2) := by decide +kernel
theorem dJ2_getChars_ba4f3_14 : decode cJ2_getChars_ba4f3 14 = .ok (.iload 6, 2) := by decide +kernel
theorem dJ2_getChars_ba4f3_16 : decode cJ2_getChars_ba4f3 16 = .ok (.ifCond .ne 6, 3) := by decide +kernel
theorem dJ2_getChars_ba4f3_19 : decode cJ2_getChars_ba4f3 19 = .ok (.iload_n 0, 1) := by decide +kernel
theorem dJ2_getChars_ba4f3_20 : decode cJ2_getChars_ba4f3 20 = .ok (.ineg, 1) := by decide +kernel
theorem dJ2_getChars_ba4f3_21 : decode cJ2_getChars_ba4f3 21 = .ok (.istore_n 0, 1) := by decide +kernel
theorem dJ2_getChars_ba4f3_22 : decode cJ2_getChars_ba4f3 22 = .ok (.iload_n 0, 1) := by decide +kernel
theorem dJ2_getChars_ba4f3_23 : decode cJ2_getChars_ba4f3 23 = .ok (.bipush (-100), 2) := by decide +kernel
theorem dJ2_getChars_ba4f3_25 : decode cJ2_getChars_ba4f3 25 = .ok (.if_icmp .gt 51, 3) := by decide +kernel
theorem dJ2_getChars_ba4f3_28 : decode cJ2_getChars_ba4f3 28 = .ok (.iload_n 0, 1) := by decide +kernel
theorem dJ2_getChars_ba4f3_29 : decode cJ2_getChars_ba4f3 29 = .ok (.bipush 100, 2) := by decide +kernel
theorem dJ2_getChars_ba4f3_31 : decode cJ2_getChars_ba4f3 31 = .ok (.idiv, 1) := by decide +kernel
theorem dJ2_getChars_ba4f3_32 : decode cJ2_getChars_ba4f3 32 = .ok (.istore_n 3, 1) := by decide +kernel
theorem dJ2_getChars_ba4f3_33 : decode cJ2_getChars_ba4f3 33 = .ok (.iload_n 3, 1) := by decide +kernel
theorem dJ2_getChars_ba4f3_34 : decode cJ2_getChars_ba4f3 34 = .ok (.bipush 100, 2) := by decide +kernel
theorem dJ2_getChars_ba4f3_36 : decode cJ2_getChars_ba4f3 36 = .ok (.imul, 1) := by decide +kernel
theorem dJ2_getChars_ba4f3_37 : decode cJ2_getChars_ba4f3 37 = .ok (.iload_n 0, 1) := by decide +kernel
theorem dJ2_getChars_ba4f3_38 : decode cJ2_getChars_ba4f3 38 = .ok (.isub, 1) := by decide +kernel
theorem dJ2_getChars_ba4f3_39 : decode cJ2_getChars_ba4f3 39 = .ok (.istore 4, 2) := by decide +kernel
theorem dJ2_getChars_ba4f3_41 : decode cJ2_getChars_ba4f3 41 = .ok (.iload_n 3, 1) := by decide +kernel
theorem dJ2_getChars_ba4f3_42 : decode cJ2_getChars_ba4f3 42 = .ok (.istore_n 0, 1) := by decide +kernel
theorem dJ2_getChars_ba4f3_43 : decode cJ2_getChars_ba4f3 43 = .ok (.aload_n 2, 1) := by decide +kernel
theorem dJ2_getChars_ba4f3_44 : decode cJ2_getChars_ba4f3 44 = .ok (.iinc 5 (-1), 3) := by decide +kernel
theorem dJ2_getChars_ba4f3_47 : decode cJ2_getChars_ba4f3 47 = .ok (.iload 5, 2) := by decide +kernel
theorem dJ2_getChars_ba4f3_49 : decode cJ2_getChars_ba4f3 49 = .ok (.getstatic 403, 3) := by decide +kernel
theorem dJ2_getChars_ba4f3_52 : decode cJ2_getChars_ba4f3 52 = .ok (.iload 4, 2) := by decide +kernel
theorem dJ2_getChars_ba4f3_54 : decode cJ2_getChars_ba4f3 54 = .ok (.baload, 1) := by decide +kernel
theorem dJ2_getChars_ba4f3_55 : decode cJ2_getChars_ba4f3 55 = .ok (.invokestatic 111, 3) := by decide +kernel
theorem dJ2_getChars_ba4f3_58 : decode cJ2_getChars_ba4f3 58 = .ok (.aload_n 2, 1) := by decide +kernel
theorem dJ2_getChars_ba4f3_59 : decode cJ2_getChars_ba4f3 59 = .ok (.iinc 5 (-1), 3) := by decide +kernel
theorem dJ2_getChars_ba4f3_62 : decode cJ2_getChars_ba4f3 62 = .ok (.iload 5, 2) := by decide +kernel
theorem dJ2_getChars_ba4f3_64 : decode cJ2_getChars_ba4f3 64 = .ok (.getstatic 407, 3) := by decide +kernel
theorem dJ2_getChars_ba4f3_67 : decode cJ2_getChars_ba4f3 67 = .ok (.iload 4, 2) := by decide +kernel
theorem dJ2_getChars_ba4f3_69 : decode cJ2_getChars_ba4f3 69 = .ok (.baload, 1) := by decide +kernel
theorem dJ2_getChars_ba4f3_70 : decode cJ2_getChars_ba4f3 70 = .ok (.invokestatic 111, 3) := by decide +kernel
theorem dJ2_getChars_ba4f3_73 : decode cJ2_getChars_ba4f3 73 = .ok (.goto (-51), 3) := by decide +kernel
theorem dJ2_getChars_ba4f3_76 : decode cJ2_getChars_ba4f3 76 = .ok (.aload_n 2, 1) := by decide +kernel
theorem dJ2_getChars_ba4f3_77 : decode cJ2_getChars_ba4f3 77 = .ok (.iinc 5 (-1), 3) := by decide +kernel
theorem dJ2_getChars_ba4f3_80 : decode cJ2_getChars_ba4f3 80 = .ok (.iload 5, 2) := by decide +kernel
theorem dJ2_getChars_ba4f3_82 : decode cJ2_getChars_ba4f3 82 = .ok (.getstatic 403, 3) := by decide +kernel
theorem dJ2_getChars_ba4f3_85 : decode cJ2_getChars_ba4f3 85 = .ok (.iload_n 0, 1) := by decide +kernel
theorem dJ2_getChars_ba4f3_86 : decode cJ2_getChars_ba4f3 86 = .ok (.ineg, 1) := by decide +kernel
theorem dJ2_getChars_ba4f3_87 : decode cJ2_getChars_ba4f3 87 = .ok (.baload, 1) := by decide +kernel
theorem dJ2_getChars_ba4f3_88 : decode cJ2_getChars_ba4f3 88 = .ok (.invokestatic 111, 3) := by decide +kernel
theorem dJ2_getChars_ba4f3_91 : decode cJ2_getChars_ba4f3 91 = .ok (.iload_n 0, 1) := by decide +kernel
theorem dJ2_getChars_ba4f3_92 : decode cJ2_getChars_ba4f3 92 = .ok (.bipush (-9), 2) := by decide +kernel
theorem dJ2_getChars_ba4f3_94 : decode cJ2_getChars_ba4f3 94 = .ok (.if_icmp .ge 18, 3) := by decide +kernel
theorem dJ2_getChars_ba4f3_97 : decode cJ2_getChars_ba4f3 97 = .ok (.aload_n 2, 1) := by decide +kernel
theorem dJ2_getChars_ba4f3_98 : decode cJ2_getChars_ba4f3 98 = .ok (.iinc 5 (-1), 3) := by decide +kernel
theorem dJ2_getChars_ba4f3_101 : decode cJ2_getChars_ba4f3 101 = .ok (.iload 5, 2) := by decide +kernel
theorem dJ2_getChars_ba4f3_103 : decode cJ2_getChars_ba4f3 103 = .ok (.getstatic 407, 3) := by decide +kernel
theorem dJ2_getChars_ba4f3_106 : decode cJ2_getChars_ba4f3 106 = .ok (.iload_n 0, 1) := by decide +kernel
theorem dJ2_getChars_ba4f3_107 : decode cJ2_getChars_ba4f3 107 = .ok (.ineg, 1) := by decide +kernel
theorem dJ2_getChars_ba4f3_108 : decode cJ2_getChars_ba4f3 108 = .ok (.baload, 1) := by decide +kernel
theorem dJ2_getChars_ba4f3_109 : decode cJ2_getChars_ba4f3 109 = .ok (.invokestatic 111, 3) := by decide +kernel
theorem dJ2_getChars_ba4f3_112 : decode cJ2_getChars_ba4f3 112 = .ok (.iload 6, 2) := by decide +kernel
theorem dJ2_getChars_ba4f3_114 : decode cJ2_getChars_ba4f3 114 = .ok (.ifCond .eq 14, 3) := by decide +kernel
theorem dJ2_getChars_ba4f3_117 : decode cJ2_getChars_ba4f3 117 = .ok (.aload_n 2, 1) := by decide +kernel
theorem dJ2_getChars_ba4f3_118 : decode cJ2_getChars_ba4f3 118 = .ok (.iinc 5 (-1), 3) := by decide +kernel
theorem dJ2_getChars_ba4f3_121 : decode cJ2_getChars_ba4f3 121 = .ok (.iload 5, 2) := by decide +kernel
theorem dJ2_getChars_ba4f3_123 : decode cJ2_getChars_ba4f3 123 = .ok (.bipush 45, 2) := by decide +kernel
theorem dJ2_getChars_ba4f3_125 : decode cJ2_getChars_ba4f3 125 = .ok (.invokestatic 111, 3) := by decide +kernel
theorem dJ2_getChars_ba4f3_128 : decode cJ2_getChars_ba4f3 128 = .ok (.iload 5, 2) := by decide +kernel
theorem dJ2_getChars_ba4f3_130 : decode cJ2_getChars_ba4f3 130 = .ok (.ireturn, 1) := by decide +kernel
theorem dJ2_checkIndex_2214a_0 : decode cJ2_checkIndex_2214a 0 = .ok (.iload_n 0, 1) := by decide +kernel
theorem dJ2_checkIndex_2214a_1 : decode cJ2_checkIndex_2214a 1 = .ok (.aload_n 1, 1) := by decide +kernel
theorem dJ2_checkIndex_2214a_2 : decode cJ2_checkIndex_2214a 2 = .ok (.invokestatic 48, 3) := by decide +kernel
theorem dJ2_checkIndex_2214a_5 : decode cJ2_checkIndex_2214a 5 = .ok (.invokestatic 414, 3) := by decide +kernel
theorem dJ2_checkIndex_2214a_8 : decode cJ2_checkIndex_2214a 8 = .ok (.return_, 1) := by decide +kernel
theorem dJ2_checkBoundsBeginEnd_d044e_0 : decode cJ2_checkBoundsBeginEnd_d044e 0 = .ok (.iload_n 0, 1) := by decide +kernel
theorem dJ2_checkBoundsBeginEnd_d044e_1 : decode cJ2_checkBoundsBeginEnd_d044e 1 = .ok (.iload_n 1, 1) := by decide +kernel
theorem dJ2_checkBoundsBeginEnd_d044e_2 : decode cJ2_checkBoundsBeginEnd_d044e 2 = .ok (.aload_n 2, 1) := by decide +kernel
theorem dJ2_checkBoundsBeginEnd_d044e_3 : decode cJ2_checkBoundsBeginEnd_d044e 3 = .ok (.invokestatic 48, 3) := by decide +kernel
theorem dJ2_checkBoundsBeginEnd_d044e_6 : decode cJ2_checkBoundsBeginEnd_d044e 6 = .ok (.invokestatic 241, 3) := by decide +kernel
theorem dJ2_checkBoundsBeginEnd_d044e_9 : decode cJ2_checkBoundsBeginEnd_d044e 9 = .ok (.return_, 1) := by decide +kernel
theorem dJ2_checkBoundsOffCount_d044e_0 : decode cJ2_checkBoundsOffCount_d044e 0 = .ok (.iload_n 0, 1) := by decide +kernel
theorem dJ2_checkBoundsOffCount_d044e_1 : decode cJ2_checkBoundsOffCount_d044e 1 = .ok (.iload_n 1, 1) := by decide +kernel
theorem dJ2_checkBoundsOffCount_d044e_2 : decode cJ2_checkBoundsOffCount_d044e 2 = .ok (.aload_n 2, 1) := by decide +kernel
theorem dJ2_checkBoundsOffCount_d044e_3 : decode cJ2_checkBoundsOffCount_d044e 3 = .ok (.invokestatic 48, 3) := by decide +kernel
theorem dJ2_checkBoundsOffCount_d044e_6 : decode cJ2_checkBoundsOffCount_d044e 6 = .ok (.invokestatic 419, 3) := by decide +kernel
theorem dJ2_checkBoundsOffCount_d044e_9 : decode cJ2_checkBoundsOffCount_d044e 9 = .ok (.pop, 1) := by decide +kernel
theorem dJ2_checkBoundsOffCount_d044e_10 : decode cJ2_checkBoundsOffCount_d044e 10 = .ok (.return_, 1) := by decide +kernel
theorem dJ7_rangeCheck_23922_0 : decode cJ7_rangeCheck_23922 0 = .ok (.iload_n 1, 1) := by decide +kernel
theorem dJ7_rangeCheck_23922_1 : decode cJ7_rangeCheck_23922 1 = .ok (.iload_n 2, 1) := by decide +kernel
theorem dJ7_rangeCheck_23922_2 : decode cJ7_rangeCheck_23922 2 = .ok (.if_icmp .le 44, 3) := by decide +kernel
theorem dJ7_rangeCheck_23922_5 : decode cJ7_rangeCheck_23922 5 = .ok (.new 43, 3) := by decide +kernel
theorem dJ7_rangeCheck_23922_8 : decode cJ7_rangeCheck_23922 8 = .ok (.dup, 1) := by decide +kernel
theorem dJ7_rangeCheck_23922_9 : decode cJ7_rangeCheck_23922 9 = .ok (.new 45, 3) := by decide +kernel
theorem dJ7_rangeCheck_23922_12 : decode cJ7_rangeCheck_23922 12 = .ok (.dup, 1) := by decide +kernel
theorem dJ7_rangeCheck_23922_13 : decode cJ7_rangeCheck_23922 13 = .ok (.invokespecial 47, 3) := by decide +kernel
theorem dJ7_rangeCheck_23922_16 : decode cJ7_rangeCheck_23922 16 = .ok (.ldc 48, 2) := by decide +kernel
theorem dJ7_rangeCheck_23922_18 : decode cJ7_rangeCheck_23922 18 = .ok (.invokevirtual 50, 3) := by decide +kernel
theorem dJ7_rangeCheck_23922_21 : decode cJ7_rangeCheck_23922 21 = .ok (.iload_n 1, 1) := by decide +kernel
theorem dJ7_rangeCheck_23922_22 : decode cJ7_rangeCheck_23922 22 = .ok (.invokevirtual 54, 3) := by decide +kernel
theorem dJ7_rangeCheck_23922_25 : decode cJ7_rangeCheck_23922 25 = .ok (.ldc 57, 2) := by decide +kernel
theorem dJ7_rangeCheck_23922_27 : decode cJ7_rangeCheck_23922 27 = .ok (.invokevirtual 50, 3) := by decide +kernel
theorem dJ7_rangeCheck_23922_30 : decode cJ7_rangeCheck_23922 30 = .ok (.iload_n 2, 1) := by decide +kernel
theorem dJ7_rangeCheck_23922_31 : decode cJ7_rangeCheck_23922 31 = .ok (.invokevirtual 54, 3) := by decide +kernel
theorem dJ7_rangeCheck_23922_34 : decode cJ7_rangeCheck_23922 34 = .ok (.ldc 59, 2) := by decide +kernel
theorem dJ7_rangeCheck_23922_36 : decode cJ7_rangeCheck_23922 36 = .ok (.invokevirtual 50, 3) := by decide +kernel
theorem dJ7_rangeCheck_23922_39 : decode cJ7_rangeCheck_23922 39 = .ok (.invokevirtual 61, 3) := by decide +kernel
theorem dJ7_rangeCheck_23922_42 : decode cJ7_rangeCheck_23922 42 = .ok (.invokespecial 65, 3) := by decide +kernel
theorem dJ7_rangeCheck_23922_45 : decode cJ7_rangeCheck_23922 45 = .ok (.athrow, 1) := by decide +kernel
theorem dJ7_rangeCheck_23922_46 : decode cJ7_rangeCheck_23922 46 = .ok (.iload_n 1, 1) := by decide +kernel
theorem dJ7_rangeCheck_23922_47 : decode cJ7_rangeCheck_23922 47 = .ok (.ifCond .ge 12, 3) := by decide +kernel
theorem dJ7_rangeCheck_23922_50 : decode cJ7_rangeCheck_23922 50 = .ok (.new 68, 3) := by decide +kernel
theorem dJ7_rangeCheck_23922_53 : decode cJ7_rangeCheck_23922 53 = .ok (.dup, 1) := by decide +kernel
theorem dJ7_rangeCheck_23922_54 : decode cJ7_rangeCheck_23922 54 = .ok (.iload_n 1, 1) := by decide +kernel
theorem dJ7_rangeCheck_23922_55 : decode cJ7_rangeCheck_23922 55 = .ok (.invokespecial 70, 3) := by decide +kernel
theorem dJ7_rangeCheck_23922_58 : decode cJ7_rangeCheck_23922 58 = .ok (.athrow, 1) := by decide +kernel
theorem dJ7_rangeCheck_23922_59 : decode cJ7_rangeCheck_23922 59 = .ok (.iload_n 2, 1) := by decide +kernel
theorem dJ7_rangeCheck_23922_60 : decode cJ7_rangeCheck_23922 60 = .ok (.iload_n 0, 1) := by decide +kernel
theorem dJ7_rangeCheck_23922_61 : decode cJ7_rangeCheck_23922 61 = .ok (.if_icmp .le 12, 3) := by decide +kernel
theorem dJ7_rangeCheck_23922_64 : decode cJ7_rangeCheck_23922 64 = .ok (.new 68, 3) := by decide +kernel
theorem dJ7_rangeCheck_23922_67 : decode cJ7_rangeCheck_23922 67 = .ok (.dup, 1) := by decide +kernel
theorem dJ7_rangeCheck_23922_68 : decode cJ7_rangeCheck_23922 68 = .ok (.iload_n 2, 1) := by decide +kernel
theorem dJ7_rangeCheck_23922_69 : decode cJ7_rangeCheck_23922 69 = .ok (.invokespecial 70, 3) := by decide +kernel
theorem dJ7_rangeCheck_23922_72 : decode cJ7_rangeCheck_23922 72 = .ok (.athrow, 1) := by decide +kernel
theorem dJ7_rangeCheck_23922_73 : decode cJ7_rangeCheck_23922 73 = .ok (.return_, 1) := by decide +kernel
theorem dJ7_fill_eb02e_0 : decode cJ7_fill_eb02e 0 = .ok (.aload_n 0, 1) := by decide +kernel
theorem dJ7_fill_eb02e_1 : decode cJ7_fill_eb02e 1 = .ok (.arraylength, 1) := by decide +kernel
theorem dJ7_fill_eb02e_2 : decode cJ7_fill_eb02e 2 = .ok (.iload_n 1, 1) := by decide +kernel
theorem dJ7_fill_eb02e_3 : decode cJ7_fill_eb02e 3 = .ok (.iload_n 2, 1) := by decide +kernel
theorem dJ7_fill_eb02e_4 : decode cJ7_fill_eb02e 4 = .ok (.invokestatic 13, 3) := by decide +kernel
theorem dJ7_fill_eb02e_7 : decode cJ7_fill_eb02e 7 = .ok (.iload_n 1, 1) := by decide +kernel
theorem dJ7_fill_eb02e_8 : decode cJ7_fill_eb02e 8 = .ok (.istore 4, 2) := by decide +kernel
theorem dJ7_fill_eb02e_10 : decode cJ7_fill_eb02e 10 = .ok (.iload 4, 2) := by decide +kernel
theorem dJ7_fill_eb02e_12 : decode cJ7_fill_eb02e 12 = .ok (.iload_n 2, 1) := by decide +kernel
theorem dJ7_fill_eb02e_13 : decode cJ7_fill_eb02e 13 = .ok (.if_icmp .ge 14, 3) := by decide +kernel
theorem dJ7_fill_eb02e_16 : decode cJ7_fill_eb02e 16 = .ok (.aload_n 0, 1) := by decide +kernel
theorem dJ7_fill_eb02e_17 : decode cJ7_fill_eb02e 17 = .ok (.iload 4, 2) := by decide +kernel
theorem dJ7_fill_eb02e_19 : decode cJ7_fill_eb02e 19 = .ok (.iload_n 3, 1) := by decide +kernel
theorem dJ7_fill_eb02e_20 : decode cJ7_fill_eb02e 20 = .ok (.bastore, 1) := by decide +kernel
theorem dJ7_fill_eb02e_21 : decode cJ7_fill_eb02e 21 = .ok (.iinc 4 1, 3) := by decide +kernel
theorem dJ7_fill_eb02e_24 : decode cJ7_fill_eb02e 24 = .ok (.goto (-14), 3) := by decide +kernel
theorem dJ7_fill_eb02e_27 : decode cJ7_fill_eb02e 27 = .ok (.return_, 1) := by decide +kernel
theorem dJ7_copyOf_9075b_0 : decode cJ7_copyOf_9075b 0 = .ok (.iload_n 1, 1) := by decide +kernel
theorem dJ7_copyOf_9075b_1 : decode cJ7_copyOf_9075b 1 = .ok (.aload_n 0, 1) := by decide +kernel
theorem dJ7_copyOf_9075b_2 : decode cJ7_copyOf_9075b 2 = .ok (.arraylength, 1) := by decide +kernel
theorem dJ7_copyOf_9075b_3 : decode cJ7_copyOf_9075b 3 = .ok (.if_icmp .ne 11, 3) := by decide +kernel
theorem dJ7_copyOf_9075b_6 : decode cJ7_copyOf_9075b 6 = .ok (.aload_n 0, 1) := by decide +kernel
theorem dJ7_copyOf_9075b_7 : decode cJ7_copyOf_9075b 7 = .ok (.invokevirtual 310, 3) := by decide +kernel
theorem dJ7_copyOf_9075b_10 : decode cJ7_copyOf_9075b 10 = .ok (.checkcast 311, 3) := by decide +kernel
theorem dJ7_copyOf_9075b_13 : decode cJ7_copyOf_9075b 13 = .ok (.areturn, 1) := by decide +kernel
theorem dJ7_copyOf_9075b_14 : decode cJ7_copyOf_9075b 14 = .ok (.iload_n 1, 1) := by decide +kernel
theorem dJ7_copyOf_9075b_15 : decode cJ7_copyOf_9075b 15 = .ok (.newarray .byte, 2) := by decide +kernel
theorem dJ7_copyOf_9075b_17 : decode cJ7_copyOf_9075b 17 = .ok (.astore_n 2, 1) := by decide +kernel
theorem dJ7_copyOf_9075b_18 : decode cJ7_copyOf_9075b 18 = .ok (.aload_n 0, 1) := by decide +kernel
theorem dJ7_copyOf_9075b_19 : decode cJ7_copyOf_9075b 19 = .ok (.iconst 0, 1) := by decide +kernel
theorem dJ7_copyOf_9075b_20 : decode cJ7_copyOf_9075b 20 = .ok (.aload_n 2, 1) := by decide +kernel
theorem dJ7_copyOf_9075b_21 : decode cJ7_copyOf_9075b 21 = .ok (.iconst 0, 1) := by decide +kernel
theorem dJ7_copyOf_9075b_22 : decode cJ7_copyOf_9075b 22 = .ok (.aload_n 0, 1) := by decide +kernel
theorem dJ7_copyOf_9075b_23 : decode cJ7_copyOf_9075b 23 = .ok (.arraylength, 1) := by decide +kernel
theorem dJ7_copyOf_9075b_24 : decode cJ7_copyOf_9075b 24 = .ok (.iload_n 1, 1) := by decide +kernel
theorem dJ7_copyOf_9075b_25 : decode cJ7_copyOf_9075b 25 = .ok (.invokestatic 304, 3) := by decide +kernel
theorem dJ7_copyOf_9075b_28 : decode cJ7_copyOf_9075b 28 = .ok (.invokestatic 150, 3) := by decide +kernel
theorem dJ7_copyOf_9075b_31 : decode cJ7_copyOf_9075b 31 = .ok (.aload_n 2, 1) := by decide +kernel
theorem dJ7_copyOf_9075b_32 : decode cJ7_copyOf_9075b 32 = .ok (.areturn, 1) := by decide +kernel
theorem dJ7_checkLength_df160_0 : decode cJ7_checkLength_df160 0 = .ok (.iload_n 1, 1) := by decide +kernel
theorem dJ7_checkLength_df160_1 : decode cJ7_checkLength_df160 1 = .ok (.iload_n 0, 1) := by decide +kernel
theorem dJ7_checkLength_df160_2 : decode cJ7_checkLength_df160 2 = .ok (.if_icmp .ge 35, 3) := by decide +kernel
theorem dJ7_checkLength_df160_5 : decode cJ7_checkLength_df160 5 = .ok (.new 43, 3) := by decide +kernel
theorem dJ7_checkLength_df160_8 : decode cJ7_checkLength_df160 8 = .ok (.dup, 1) := by decide +kernel
theorem dJ7_checkLength_df160_9 : decode cJ7_checkLength_df160 9 = .ok (.new 45, 3) := by decide +kernel
theorem dJ7_checkLength_df160_12 : decode cJ7_checkLength_df160 12 = .ok (.dup, 1) := by decide +kernel
theorem dJ7_checkLength_df160_13 : decode cJ7_checkLength_df160 13 = .ok (.invokespecial 47, 3) := by decide +kernel
theorem dJ7_checkLength_df160_16 : decode cJ7_checkLength_df160 16 = .ok (.iload_n 0, 1) := by decide +kernel
theorem dJ7_checkLength_df160_17 : decode cJ7_checkLength_df160 17 = .ok (.invokevirtual 54, 3) := by decide +kernel
theorem dJ7_checkLength_df160_20 : decode cJ7_checkLength_df160 20 = .ok (.ldc_w 337, 3) := by decide +kernel
theorem dJ7_checkLength_df160_23 : decode cJ7_checkLength_df160 23 = .ok (.invokevirtual 50, 3) := by decide +kernel
theorem dJ7_checkLength_df160_26 : decode cJ7_checkLength_df160 26 = .ok (.iload_n 1, 1) := by decide +kernel
theorem dJ7_checkLength_df160_27 : decode cJ7_checkLength_df160 27 = .ok (.invokevirtual 54, 3) := by decide +kernel
theorem dJ7_checkLength_df160_30 : decode cJ7_checkLength_df160 30 = .ok (.invokevirtual 61, 3) := by decide +kernel
theorem dJ7_checkLength_df160_33 : decode cJ7_checkLength_df160 33 = .ok (.invokespecial 65, 3) := by decide +kernel
theorem dJ7_checkLength_df160_36 : decode cJ7_checkLength_df160 36 = .ok (.athrow, 1) := by decide +kernel
theorem dJ7_checkLength_df160_37 : decode cJ7_checkLength_df160 37 = .ok (.return_, 1) := by decide +kernel
theorem dJ7_copyOfRange_39247_0 : decode cJ7_copyOfRange_39247 0 = .ok (.iload_n 1, 1) := by decide +kernel
theorem dJ7_copyOfRange_39247_1 : decode cJ7_copyOfRange_39247 1 = .ok (.ifCond .ne 9, 3) := by decide +kernel
theorem dJ7_copyOfRange_39247_4 : decode cJ7_copyOfRange_39247 4 = .ok (.iload_n 2, 1) := by decide +kernel
theorem dJ7_copyOfRange_39247_5 : decode cJ7_copyOfRange_39247 5 = .ok (.aload_n 0, 1) := by decide +kernel
theorem dJ7_copyOfRange_39247_6 : decode cJ7_copyOfRange_39247 6 = .ok (.arraylength, 1) := by decide +kernel
theorem dJ7_copyOfRange_39247_7 : decode cJ7_copyOfRange_39247 7 = .ok (.if_icmp .eq 10, 3) := by decide +kernel
theorem dJ7_copyOfRange_39247_10 : decode cJ7_copyOfRange_39247 10 = .ok (.aload_n 0, 1) := by decide +kernel
theorem dJ7_copyOfRange_39247_11 : decode cJ7_copyOfRange_39247 11 = .ok (.iload_n 1, 1) := by decide +kernel
theorem dJ7_copyOfRange_39247_12 : decode cJ7_copyOfRange_39247 12 = .ok (.iload_n 2, 1) := by decide +kernel
theorem dJ7_copyOfRange_39247_13 : decode cJ7_copyOfRange_39247 13 = .ok (.invokestatic 339, 3) := by decide +kernel
theorem dJ7_copyOfRange_39247_16 : decode cJ7_copyOfRange_39247 16 = .ok (.areturn, 1) := by decide +kernel
theorem dJ7_copyOfRange_39247_17 : decode cJ7_copyOfRange_39247 17 = .ok (.aload_n 0, 1) := by decide +kernel
theorem dJ7_copyOfRange_39247_18 : decode cJ7_copyOfRange_39247 18 = .ok (.invokevirtual 310, 3) := by decide +kernel
theorem dJ7_copyOfRange_39247_21 : decode cJ7_copyOfRange_39247 21 = .ok (.checkcast 311, 3) := by decide +kernel
theorem dJ7_copyOfRange_39247_24 : decode cJ7_copyOfRange_39247 24 = .ok (.areturn, 1) := by decide +kernel
theorem dJ7_copyOfRangeByte_39247_0 : decode cJ7_copyOfRangeByte_39247 0 = .ok (.iload_n 1, 1) := by decide +kernel
theorem dJ7_copyOfRangeByte_39247_1 : decode cJ7_copyOfRangeByte_39247 1 = .ok (.iload_n 2, 1) := by decide +kernel
theorem dJ7_copyOfRangeByte_39247_2 : decode cJ7_copyOfRangeByte_39247 2 = .ok (.invokestatic 343, 3) := by decide +kernel
theorem dJ7_copyOfRangeByte_39247_5 : decode cJ7_copyOfRangeByte_39247 5 = .ok (.iload_n 2, 1) := by decide +kernel
theorem dJ7_copyOfRangeByte_39247_6 : decode cJ7_copyOfRangeByte_39247 6 = .ok (.iload_n 1, 1) := by decide +kernel
theorem dJ7_copyOfRangeByte_39247_7 : decode cJ7_copyOfRangeByte_39247 7 = .ok (.isub, 1) := by decide +kernel
theorem dJ7_copyOfRangeByte_39247_8 : decode cJ7_copyOfRangeByte_39247 8 = .ok (.istore_n 3, 1) := by decide +kernel
theorem dJ7_copyOfRangeByte_39247_9 : decode cJ7_copyOfRangeByte_39247 9 = .ok (.iload_n 3, 1) := by decide +kernel
theorem dJ7_copyOfRangeByte_39247_10 : decode cJ7_copyOfRangeByte_39247 10 = .ok (.newarray .byte, 2) := by decide +kernel
theorem dJ7_copyOfRangeByte_39247_12 : decode cJ7_copyOfRangeByte_39247 12 = .ok (.astore 4, 2) := by decide +kernel
theorem dJ7_copyOfRangeByte_39247_14 : decode cJ7_copyOfRangeByte_39247 14 = .ok (.aload_n 0, 1) := by decide +kernel
theorem dJ7_copyOfRangeByte_39247_15 : decode cJ7_copyOfRangeByte_39247 15 = .ok (.iload_n 1, 1) := by decide +kernel
theorem dJ7_copyOfRangeByte_39247_16 : decode cJ7_copyOfRangeByte_39247 16 = .ok (.aload 4, 2) := by decide +kernel
theorem dJ7_copyOfRangeByte_39247_18 : decode cJ7_copyOfRangeByte_39247 18 = .ok (.iconst 0, 1) := by decide +kernel
theorem dJ7_copyOfRangeByte_39247_19 : decode cJ7_copyOfRangeByte_39247 19 = .ok (.aload_n 0, 1) := by decide +kernel
theorem dJ7_copyOfRangeByte_39247_20 : decode cJ7_copyOfRangeByte_39247 20 = .ok (.arraylength, 1) := by decide +kernel
theorem dJ7_copyOfRangeByte_39247_21 : decode cJ7_copyOfRangeByte_39247 21 = .ok (.iload_n 1, 1) := by decide +kernel
theorem dJ7_copyOfRangeByte_39247_22 : decode cJ7_copyOfRangeByte_39247 22 = .ok (.isub, 1) := by decide +kernel
theorem dJ7_copyOfRangeByte_39247_23 : decode cJ7_copyOfRangeByte_39247 23 = .ok (.iload_n 3, 1) := by decide +kernel
theorem dJ7_copyOfRangeByte_39247_24 : decode cJ7_copyOfRangeByte_39247 24 = .ok (.invokestatic 304, 3) := by decide +kernel
theorem dJ7_copyOfRangeByte_39247_27 : decode cJ7_copyOfRangeByte_39247 27 = .ok (.invokestatic 150, 3) := by decide +kernel
theorem dJ7_copyOfRangeByte_39247_30 : decode cJ7_copyOfRangeByte_39247 30 = .ok (.aload 4, 2) := by decide +kernel
theorem dJ7_copyOfRangeByte_39247_32 : decode cJ7_copyOfRangeByte_39247 32 = .ok (.areturn, 1) := by decide +kernel
theorem dJ8_newLength_cabcc_0 : decode cJ8_newLength_cabcc 0 = .ok (.iload_n 0, 1) := by decide +kernel
theorem dJ8_newLength_cabcc_1 : decode cJ8_newLength_cabcc 1 = .ok (.iload_n 1, 1) := by decide +kernel
theorem dJ8_newLength_cabcc_2 : decode cJ8_newLength_cabcc 2 = .ok (.iload_n 2, 1) := by decide +kernel
theorem dJ8_newLength_cabcc_3 : decode cJ8_newLength_cabcc 3 = .ok (.invokestatic 194, 3) := by decide +kernel
theorem dJ8_newLength_cabcc_6 : decode cJ8_newLength_cabcc 6 = .ok (.iadd, 1) := by decide +kernel
theorem dJ8_newLength_cabcc_7 : decode cJ8_newLength_cabcc 7 = .ok (.istore_n 3, 1) := by decide +kernel
theorem dJ8_newLength_cabcc_8 : decode cJ8_newLength_cabcc 8 = .ok (.iconst 0, 1) := by decide +kernel
theorem dJ8_newLength_cabcc_9 : decode cJ8_newLength_cabcc 9 = .ok (.iload_n 3, 1) := by decide +kernel
theorem dJ8_newLength_cabcc_10 : decode cJ8_newLength_cabcc 10 = .ok (.if_icmp .ge 11, 3) := by decide +kernel
theorem dJ8_newLength_cabcc_13 : decode cJ8_newLength_cabcc 13 = .ok (.iload_n 3, 1) := by decide +kernel
theorem dJ8_newLength_cabcc_14 : decode cJ8_newLength_cabcc 14 = .ok (.ldc 200, 2) := by decide +kernel
theorem dJ8_newLength_cabcc_16 : decode cJ8_newLength_cabcc 16 = .ok (.if_icmp .gt 5, 3) := by decide +kernel
theorem dJ8_newLength_cabcc_19 : decode cJ8_newLength_cabcc 19 = .ok (.iload_n 3, 1) := by decide +kernel
theorem dJ8_newLength_cabcc_20 : decode cJ8_newLength_cabcc 20 = .ok (.ireturn, 1) := by decide +kernel
theorem dJ8_newLength_cabcc_21 : decode cJ8_newLength_cabcc 21 = .ok (.iload_n 0, 1) := by decide +kernel
theorem dJ8_newLength_cabcc_22 : decode cJ8_newLength_cabcc 22 = .ok (.iload_n 1, 1) := by decide +kernel
theorem dJ8_newLength_cabcc_23 : decode cJ8_newLength_cabcc 23 = .ok (.invokestatic 201, 3) := by decide +kernel
theorem dJ8_newLength_cabcc_26 : decode cJ8_newLength_cabcc 26 = .ok (.ireturn, 1) := by decide +kernel
theorem dJ8_hugeLength_7cf53_0 : decode cJ8_hugeLength_7cf53 0 = .ok (.iload_n 0, 1) := by decide +kernel
theorem dJ8_hugeLength_7cf53_1 : decode cJ8_hugeLength_7cf53 1 = .ok (.iload_n 1, 1) := by decide +kernel
theorem dJ8_hugeLength_7cf53_2 : decode cJ8_hugeLength_7cf53 2 = .ok (.iadd, 1) := by decide +kernel
theorem dJ8_hugeLength_7cf53_3 : decode cJ8_hugeLength_7cf53 3 = .ok (.istore_n 2, 1) := by decide +kernel
theorem dJ8_hugeLength_7cf53_4 : decode cJ8_hugeLength_7cf53 4 = .ok (.iload_n 2, 1) := by decide +kernel
theorem dJ8_hugeLength_7cf53_5 : decode cJ8_hugeLength_7cf53 5 = .ok (.ifCond .ge 44, 3) := by decide +kernel
theorem dJ8_hugeLength_7cf53_8 : decode cJ8_hugeLength_7cf53 8 = .ok (.new 204, 3) := by decide +kernel
theorem dJ8_hugeLength_7cf53_11 : decode cJ8_hugeLength_7cf53 11 = .ok (.dup, 1) := by decide +kernel
theorem dJ8_hugeLength_7cf53_12 : decode cJ8_hugeLength_7cf53 12 = .ok (.new 89, 3) := by decide +kernel
theorem dJ8_hugeLength_7cf53_15 : decode cJ8_hugeLength_7cf53 15 = .ok (.dup, 1) := by decide +kernel
theorem dJ8_hugeLength_7cf53_16 : decode cJ8_hugeLength_7cf53 16 = .ok (.invokespecial 91, 3) := by decide +kernel
theorem dJ8_hugeLength_7cf53_19 : decode cJ8_hugeLength_7cf53 19 = .ok (.ldc 206, 2) := by decide +kernel
theorem dJ8_hugeLength_7cf53_21 : decode cJ8_hugeLength_7cf53 21 = .ok (.invokevirtual 94, 3) := by decide +kernel
theorem dJ8_hugeLength_7cf53_24 : decode cJ8_hugeLength_7cf53 24 = .ok (.iload_n 0, 1) := by decide +kernel
theorem dJ8_hugeLength_7cf53_25 : decode cJ8_hugeLength_7cf53 25 = .ok (.invokevirtual 98, 3) := by decide +kernel
theorem dJ8_hugeLength_7cf53_28 : decode cJ8_hugeLength_7cf53 28 = .ok (.ldc 208, 2) := by decide +kernel
theorem dJ8_hugeLength_7cf53_30 : decode cJ8_hugeLength_7cf53 30 = .ok (.invokevirtual 94, 3) := by decide +kernel
theorem dJ8_hugeLength_7cf53_33 : decode cJ8_hugeLength_7cf53 33 = .ok (.iload_n 1, 1) := by decide +kernel
theorem dJ8_hugeLength_7cf53_34 : decode cJ8_hugeLength_7cf53 34 = .ok (.invokevirtual 98, 3) := by decide +kernel
theorem dJ8_hugeLength_7cf53_37 : decode cJ8_hugeLength_7cf53 37 = .ok (.ldc 210, 2) := by decide +kernel
theorem dJ8_hugeLength_7cf53_39 : decode cJ8_hugeLength_7cf53 39 = .ok (.invokevirtual 94, 3) := by decide +kernel
theorem dJ8_hugeLength_7cf53_42 : decode cJ8_hugeLength_7cf53 42 = .ok (.invokevirtual 101, 3) := by decide +kernel
theorem dJ8_hugeLength_7cf53_45 : decode cJ8_hugeLength_7cf53 45 = .ok (.invokespecial 212, 3) := by decide +kernel
theorem dJ8_hugeLength_7cf53_48 : decode cJ8_hugeLength_7cf53 48 = .ok (.athrow, 1) := by decide +kernel
theorem dJ8_hugeLength_7cf53_49 : decode cJ8_hugeLength_7cf53 49 = .ok (.iload_n 2, 1) := by decide +kernel
theorem dJ8_hugeLength_7cf53_50 : decode cJ8_hugeLength_7cf53 50 = .ok (.ldc 200, 2) := by decide +kernel
theorem dJ8_hugeLength_7cf53_52 : decode cJ8_hugeLength_7cf53 52 = .ok (.if_icmp .gt 6, 3) := by decide +kernel
theorem dJ8_hugeLength_7cf53_55 : decode cJ8_hugeLength_7cf53 55 = .ok (.ldc 200, 2) := by decide +kernel
theorem dJ8_hugeLength_7cf53_57 : decode cJ8_hugeLength_7cf53 57 = .ok (.ireturn, 1) := by decide +kernel
theorem dJ8_hugeLength_7cf53_58 : decode cJ8_hugeLength_7cf53 58 = .ok (.iload_n 2, 1) := by decide +kernel
theorem dJ8_hugeLength_7cf53_59 : decode cJ8_hugeLength_7cf53 59 = .ok (.ireturn, 1) := by decide +kernel
theorem dJ3_checkIndex_8e157_0 : decode cJ3_checkIndex_8e157 0 = .ok (.iload_n 0, 1) := by decide +kernel
theorem dJ3_checkIndex_8e157_1 : decode cJ3_checkIndex_8e157 1 = .ok (.ifCond .lt 8, 3) := by decide +kernel
theorem dJ3_checkIndex_8e157_4 : decode cJ3_checkIndex_8e157 4 = .ok (.iload_n 0, 1) := by decide +kernel
theorem dJ3_checkIndex_8e157_5 : decode cJ3_checkIndex_8e157 5 = .ok (.iload_n 1, 1) := by decide +kernel
theorem dJ3_checkIndex_8e157_6 : decode cJ3_checkIndex_8e157 6 = .ok (.if_icmp .lt 10, 3) := by decide +kernel
theorem dJ3_checkIndex_8e157_9 : decode cJ3_checkIndex_8e157 9 = .ok (.aload_n 2, 1) := by decide +kernel
theorem dJ3_checkIndex_8e157_10 : decode cJ3_checkIndex_8e157 10 = .ok (.iload_n 0, 1) := by decide +kernel
theorem dJ3_checkIndex_8e157_11 : decode cJ3_checkIndex_8e157 11 = .ok (.iload_n 1, 1) := by decide +kernel
theorem dJ3_checkIndex_8e157_12 : decode cJ3_checkIndex_8e157 12 = .ok (.invokestatic 95, 3) := by decide +kernel
theorem dJ3_checkIndex_8e157_15 : decode cJ3_checkIndex_8e157 15 = .ok (.athrow, 1) := by decide +kernel
theorem dJ3_checkIndex_8e157_16 : decode cJ3_checkIndex_8e157 16 = .ok (.iload_n 0, 1) := by decide +kernel
theorem dJ3_checkIndex_8e157_17 : decode cJ3_checkIndex_8e157 17 = .ok (.ireturn, 1) := by decide +kernel
theorem dJ3_checkFromToIndex_8c36e_0 : decode cJ3_checkFromToIndex_8c36e 0 = .ok (.iload_n 0, 1) := by decide +kernel
theorem dJ3_checkFromToIndex_8c36e_1 : decode cJ3_checkFromToIndex_8c36e 1 = .ok (.ifCond .lt 13, 3) := by decide +kernel
theorem dJ3_checkFromToIndex_8c36e_4 : decode cJ3_checkFromToIndex_8c36e 4 = .ok (.iload_n 0, 1) := by decide +kernel
theorem dJ3_checkFromToIndex_8c36e_5 : decode cJ3_checkFromToIndex_8c36e 5 = .ok (.iload_n 1, 1) := by decide +kernel
theorem dJ3_checkFromToIndex_8c36e_6 : decode cJ3_checkFromToIndex_8c36e 6 = .ok (.if_icmp .gt 8, 3) := by decide +kernel
theorem dJ3_checkFromToIndex_8c36e_9 : decode cJ3_checkFromToIndex_8c36e 9 = .ok (.iload_n 1, 1) := by decide +kernel
theorem dJ3_checkFromToIndex_8c36e_10 : decode cJ3_checkFromToIndex_8c36e 10 = .ok (.iload_n 2, 1) := by decide +kernel
theorem dJ3_checkFromToIndex_8c36e_11 : decode cJ3_checkFromToIndex_8c36e 11 = .ok (.if_icmp .le 11, 3) := by decide +kernel
theorem dJ3_checkFromToIndex_8c36e_14 : decode cJ3_checkFromToIndex_8c36e 14 = .ok (.aload_n 3, 1) := by decide +kernel
theorem dJ3_checkFromToIndex_8c36e_15 : decode cJ3_checkFromToIndex_8c36e 15 = .ok (.iload_n 0, 1) := by decide +kernel
theorem dJ3_checkFromToIndex_8c36e_16 : decode cJ3_checkFromToIndex_8c36e 16 = .ok (.iload_n 1, 1) := by decide +kernel
theorem dJ3_checkFromToIndex_8c36e_17 : decode cJ3_checkFromToIndex_8c36e 17 = .ok (.iload_n 2, 1) := by decide +kernel
theorem dJ3_checkFromToIndex_8c36e_18 : decode cJ3_checkFromToIndex_8c36e 18 = .ok (.invokestatic 99, 3) := by decide +kernel
theorem dJ3_checkFromToIndex_8c36e_21 : decode cJ3_checkFromToIndex_8c36e 21 = .ok (.athrow, 1) := by decide +kernel
theorem dJ3_checkFromToIndex_8c36e_22 : decode cJ3_checkFromToIndex_8c36e 22 = .ok (.iload_n 0, 1) := by decide +kernel
theorem dJ3_checkFromToIndex_8c36e_23 : decode cJ3_checkFromToIndex_8c36e 23 = .ok (.ireturn, 1) := by decide +kernel
theorem dJ3_checkFromIndexSize_8c36e_0 : decode cJ3_checkFromIndexSize_8c36e 0 = .ok (.iload_n 2, 1) := by decide +kernel
theorem dJ3_checkFromIndexSize_8c36e_1 : decode cJ3_checkFromIndexSize_8c36e 1 = .ok (.iload_n 0, 1) := by decide +kernel
theorem dJ3_checkFromIndexSize_8c36e_2 : decode cJ3_checkFromIndexSize_8c36e 2 = .ok (.ior, 1) := by decide +kernel
theorem dJ3_checkFromIndexSize_8c36e_3 : decode cJ3_checkFromIndexSize_8c36e 3 = .ok (.iload_n 1, 1) := by decide +kernel
theorem dJ3_checkFromIndexSize_8c36e_4 : decode cJ3_checkFromIndexSize_8c36e 4 = .ok (.ior, 1) := by decide +kernel
theorem dJ3_checkFromIndexSize_8c36e_5 : decode cJ3_checkFromIndexSize_8c36e 5 = .ok (.ifCond .lt 10, 3) := by decide +kernel
theorem dJ3_checkFromIndexSize_8c36e_8 : decode cJ3_checkFromIndexSize_8c36e 8 = .ok (.iload_n 1, 1) := by decide +kernel
theorem dJ3_checkFromIndexSize_8c36e_9 : decode cJ3_checkFromIndexSize_8c36e 9 = .ok (.iload_n 2, 1) := by decide +kernel
theorem dJ3_checkFromIndexSize_8c36e_10 : decode cJ3_checkFromIndexSize_8c36e 10 = .ok (.iload_n 0, 1) := by decide +kernel
theorem dJ3_checkFromIndexSize_8c36e_11 : decode cJ3_checkFromIndexSize_8c36e 11 = .ok (.isub, 1) := by decide +kernel
theorem dJ3_checkFromIndexSize_8c36e_12 : decode cJ3_checkFromIndexSize_8c36e 12 = .ok (.if_icmp .le 11, 3) := by decide +kernel
theorem dJ3_checkFromIndexSize_8c36e_15 : decode cJ3_checkFromIndexSize_8c36e 15 = .ok (.aload_n 3, 1) := by decide +kernel
theorem dJ3_checkFromIndexSize_8c36e_16 : decode cJ3_checkFromIndexSize_8c36e 16 = .ok (.iload_n 0, 1) := by decide +kernel
theorem dJ3_checkFromIndexSize_8c36e_17 : decode cJ3_checkFromIndexSize_8c36e 17 = .ok (.iload_n 1, 1) := by decide +kernel
theorem dJ3_checkFromIndexSize_8c36e_18 : decode cJ3_checkFromIndexSize_8c36e 18 = .ok (.iload_n 2, 1) := by decide +kernel
theorem dJ3_checkFromIndexSize_8c36e_19 : decode cJ3_checkFromIndexSize_8c36e 19 = .ok (.invokestatic 103, 3) := by decide +kernel
theorem dJ3_checkFromIndexSize_8c36e_22 : decode cJ3_checkFromIndexSize_8c36e 22 = .ok (.athrow, 1) := by decide +kernel
theorem dJ3_checkFromIndexSize_8c36e_23 : decode cJ3_checkFromIndexSize_8c36e 23 = .ok (.iload_n 0, 1) := by decide +kernel
theorem dJ3_checkFromIndexSize_8c36e_24 : decode cJ3_checkFromIndexSize_8c36e 24 = .ok (.ireturn, 1) := by decide +kernel
theorem dL_addHorizon_0 : decode cL_addHorizon 0 = .ok (.aload_n 3, 1) := by decide +kernel
theorem dL_addHorizon_1 : decode cL_addHorizon 1 = .ok (.iconst 0, 1) := by decide +kernel
theorem dL_addHorizon_2 : decode cL_addHorizon 2 = .ok (.aload_n 0, 1) := by decide +kernel
theorem dL_addHorizon_3 : decode cL_addHorizon 3 = .ok (.iload_n 1, 1) := by decide +kernel
theorem dL_addHorizon_4 : decode cL_addHorizon 4 = .ok (.iload_n 2, 1) := by decide +kernel
theorem dL_addHorizon_5 : decode cL_addHorizon 5 = .ok (.invokevirtual 7, 3) := by decide +kernel
theorem dL_addHorizon_8 : decode cL_addHorizon 8 = .ok (.i2l, 1) := by decide +kernel
theorem dL_addHorizon_9 : decode cL_addHorizon 9 = .ok (.lastore, 1) := by decide +kernel
theorem dL_addHorizon_10 : decode cL_addHorizon 10 = .ok (.goto 11, 3) := by decide +kernel
theorem dL_addHorizon_13 : decode cL_addHorizon 13 = .ok (.astore 4, 2) := by decide +kernel
theorem dL_addHorizon_15 : decode cL_addHorizon 15 = .ok (.iconst 1, 1) := by decide +kernel
theorem dL_addHorizon_16 : decode cL_addHorizon 16 = .ok (.ireturn, 1) := by decide +kernel
theorem dL_addHorizon_17 : decode cL_addHorizon 17 = .ok (.astore 4, 2) := by decide +kernel
theorem dL_addHorizon_19 : decode cL_addHorizon 19 = .ok (.iconst 2, 1) := by decide +kernel
theorem dL_addHorizon_20 : decode cL_addHorizon 20 = .ok (.ireturn, 1) := by decide +kernel
theorem dL_addHorizon_21 : decode cL_addHorizon 21 = .ok (.iconst 0, 1) := by decide +kernel
theorem dL_addHorizon_22 : decode cL_addHorizon 22 = .ok (.ireturn, 1) := by decide +kernel
theorem dL_addTrader_0 : decode cL_addTrader 0 = .ok (.aload_n 2, 1) := by decide +kernel
theorem dL_addTrader_1 : decode cL_addTrader 1 = .ok (.iconst 0, 1) := by decide +kernel
theorem dL_addTrader_2 : decode cL_addTrader 2 = .ok (.aload_n 0, 1) := by decide +kernel
theorem dL_addTrader_3 : decode cL_addTrader 3 = .ok (.iload_n 1, 1) := by decide +kernel
theorem dL_addTrader_4 : decode cL_addTrader 4 = .ok (.invokevirtual 17, 3) := by decide +kernel
theorem dL_addTrader_7 : decode cL_addTrader 7 = .ok (.i2l, 1) := by decide +kernel
theorem dL_addTrader_8 : decode cL_addTrader 8 = .ok (.lastore, 1) := by decide +kernel
theorem dL_addTrader_9 : decode cL_addTrader 9 = .ok (.goto 9, 3) := by decide +kernel
theorem dL_addTrader_12 : decode cL_addTrader 12 = .ok (.astore_n 3, 1) := by decide +kernel
theorem dL_addTrader_13 : decode cL_addTrader 13 = .ok (.iconst 1, 1) := by decide +kernel
theorem dL_addTrader_14 : decode cL_addTrader 14 = .ok (.ireturn, 1) := by decide +kernel
theorem dL_addTrader_15 : decode cL_addTrader 15 = .ok (.astore_n 3, 1) := by decide +kernel
theorem dL_addTrader_16 : decode cL_addTrader 16 = .ok (.iconst 2, 1) := by decide +kernel
theorem dL_addTrader_17 : decode cL_addTrader 17 = .ok (.ireturn, 1) := by decide +kernel
theorem dL_addTrader_18 : decode cL_addTrader 18 = .ok (.iconst 0, 1) := by decide +kernel
theorem dL_addTrader_19 : decode cL_addTrader 19 = .ok (.ireturn, 1) := by decide +kernel
theorem dL_trade_0 : decode cL_trade 0 = .ok (.aload 6, 2) := by decide +kernel
theorem dL_trade_2 : decode cL_trade 2 = .ok (.iconst 0, 1) := by decide +kernel
theorem dL_trade_3 : decode cL_trade 3 = .ok (.aload_n 0, 1) := by decide +kernel
theorem dL_trade_4 : decode cL_trade 4 = .ok (.iload_n 1, 1) := by decide +kernel
theorem dL_trade_5 : decode cL_trade 5 = .ok (.iload_n 2, 1) := by decide +kernel
theorem dL_trade_6 : decode cL_trade 6 = .ok (.iload_n 3, 1) := by decide +kernel
theorem dL_trade_7 : decode cL_trade 7 = .ok (.iload 4, 2) := by decide +kernel
theorem dL_trade_9 : decode cL_trade 9 = .ok (.iload 5, 2) := by decide +kernel
theorem dL_trade_11 : decode cL_trade 11 = .ok (.invokevirtual 21, 3) := by decide +kernel
theorem dL_trade_14 : decode cL_trade 14 = .ok (.i2l, 1) := by decide +kernel
theorem dL_trade_15 : decode cL_trade 15 = .ok (.lastore, 1) := by decide +kernel
theorem dL_trade_16 : decode cL_trade 16 = .ok (.goto 19, 3) := by decide +kernel
theorem dL_trade_19 : decode cL_trade 19 = .ok (.astore 7, 2) := by decide +kernel
theorem dL_trade_21 : decode cL_trade 21 = .ok (.iconst 1, 1) := by decide +kernel
theorem dL_trade_22 : decode cL_trade 22 = .ok (.ireturn, 1) := by decide +kernel
theorem dL_trade_23 : decode cL_trade 23 = .ok (.astore 7, 2) := by decide +kernel
theorem dL_trade_25 : decode cL_trade 25 = .ok (.iconst 2, 1) := by decide +kernel
theorem dL_trade_26 : decode cL_trade 26 = .ok (.ireturn, 1) := by decide +kernel
theorem dL_trade_27 : decode cL_trade 27 = .ok (.astore 7, 2) := by decide +kernel
theorem dL_trade_29 : decode cL_trade 29 = .ok (.iconst 3, 1) := by decide +kernel
theorem dL_trade_30 : decode cL_trade 30 = .ok (.ireturn, 1) := by decide +kernel
theorem dL_trade_31 : decode cL_trade 31 = .ok (.astore 7, 2) := by decide +kernel
theorem dL_trade_33 : decode cL_trade 33 = .ok (.iconst 4, 1) := by decide +kernel
theorem dL_trade_34 : decode cL_trade 34 = .ok (.ireturn, 1) := by decide +kernel
theorem dL_trade_35 : decode cL_trade 35 = .ok (.iconst 0, 1) := by decide +kernel
theorem dL_trade_36 : decode cL_trade 36 = .ok (.ireturn, 1) := by decide +kernel
theorem dL_setQuote_0 : decode cL_setQuote 0 = .ok (.aload_n 3, 1) := by decide +kernel
theorem dL_setQuote_1 : decode cL_setQuote 1 = .ok (.iconst 0, 1) := by decide +kernel
theorem dL_setQuote_2 : decode cL_setQuote 2 = .ok (.aload_n 0, 1) := by decide +kernel
theorem dL_setQuote_3 : decode cL_setQuote 3 = .ok (.iload_n 1, 1) := by decide +kernel
theorem dL_setQuote_4 : decode cL_setQuote 4 = .ok (.iload_n 2, 1) := by decide +kernel
theorem dL_setQuote_5 : decode cL_setQuote 5 = .ok (.invokevirtual 29, 3) := by decide +kernel
theorem dL_setQuote_8 : decode cL_setQuote 8 = .ok (.i2l, 1) := by decide +kernel
theorem dL_setQuote_9 : decode cL_setQuote 9 = .ok (.lastore, 1) := by decide +kernel
theorem dL_setQuote_10 : decode cL_setQuote 10 = .ok (.goto 11, 3) := by decide +kernel
theorem dL_setQuote_13 : decode cL_setQuote 13 = .ok (.astore 4, 2) := by decide +kernel
theorem dL_setQuote_15 : decode cL_setQuote 15 = .ok (.iconst 1, 1) := by decide +kernel
theorem dL_setQuote_16 : decode cL_setQuote 16 = .ok (.ireturn, 1) := by decide +kernel
theorem dL_setQuote_17 : decode cL_setQuote 17 = .ok (.astore 4, 2) := by decide +kernel
theorem dL_setQuote_19 : decode cL_setQuote 19 = .ok (.iconst 2, 1) := by decide +kernel
theorem dL_setQuote_20 : decode cL_setQuote 20 = .ok (.ireturn, 1) := by decide +kernel
theorem dL_setQuote_21 : decode cL_setQuote 21 = .ok (.iconst 0, 1) := by decide +kernel
theorem dL_setQuote_22 : decode cL_setQuote 22 = .ok (.ireturn, 1) := by decide +kernel
theorem dL_deposit_0 : decode cL_deposit 0 = .ok (.aload_n 3, 1) := by decide +kernel
theorem dL_deposit_1 : decode cL_deposit 1 = .ok (.iconst 0, 1) := by decide +kernel
theorem dL_deposit_2 : decode cL_deposit 2 = .ok (.aload_n 0, 1) := by decide +kernel
theorem dL_deposit_3 : decode cL_deposit 3 = .ok (.iload_n 1, 1) := by decide +kernel
theorem dL_deposit_4 : decode cL_deposit 4 = .ok (.iload_n 2, 1) := by decide +kernel
theorem dL_deposit_5 : decode cL_deposit 5 = .ok (.invokevirtual 32, 3) := by decide +kernel
theorem dL_deposit_8 : decode cL_deposit 8 = .ok (.i2l, 1) := by decide +kernel
theorem dL_deposit_9 : decode cL_deposit 9 = .ok (.lastore, 1) := by decide +kernel
theorem dL_deposit_10 : decode cL_deposit 10 = .ok (.goto 15, 3) := by decide +kernel
theorem dL_deposit_13 : decode cL_deposit 13 = .ok (.astore 4, 2) := by decide +kernel
theorem dL_deposit_15 : decode cL_deposit 15 = .ok (.iconst 1, 1) := by decide +kernel
theorem dL_deposit_16 : decode cL_deposit 16 = .ok (.ireturn, 1) := by decide +kernel
theorem dL_deposit_17 : decode cL_deposit 17 = .ok (.astore 4, 2) := by decide +kernel
theorem dL_deposit_19 : decode cL_deposit 19 = .ok (.iconst 2, 1) := by decide +kernel
theorem dL_deposit_20 : decode cL_deposit 20 = .ok (.ireturn, 1) := by decide +kernel
theorem dL_deposit_21 : decode cL_deposit 21 = .ok (.astore 4, 2) := by decide +kernel
theorem dL_deposit_23 : decode cL_deposit 23 = .ok (.iconst 3, 1) := by decide +kernel
theorem dL_deposit_24 : decode cL_deposit 24 = .ok (.ireturn, 1) := by decide +kernel
theorem dL_deposit_25 : decode cL_deposit 25 = .ok (.iconst 0, 1) := by decide +kernel
theorem dL_deposit_26 : decode cL_deposit 26 = .ok (.ireturn, 1) := by decide +kernel
theorem dL_withdraw_0 : decode cL_withdraw 0 = .ok (.aload_n 3, 1) := by decide +kernel
theorem dL_withdraw_1 : decode cL_withdraw 1 = .ok (.iconst 0, 1) := by decide +kernel
theorem dL_withdraw_2 : decode cL_withdraw 2 = .ok (.aload_n 0, 1) := by decide +kernel
theorem dL_withdraw_3 : decode cL_withdraw 3 = .ok (.iload_n 1, 1) := by decide +kernel
theorem dL_withdraw_4 : decode cL_withdraw 4 = .ok (.iload_n 2, 1) := by decide +kernel
theorem dL_withdraw_5 : decode cL_withdraw 5 = .ok (.invokevirtual 35, 3) := by decide +kernel
theorem dL_withdraw_8 : decode cL_withdraw 8 = .ok (.i2l, 1) := by decide +kernel
theorem dL_withdraw_9 : decode cL_withdraw 9 = .ok (.lastore, 1) := by decide +kernel
theorem dL_withdraw_10 : decode cL_withdraw 10 = .ok (.goto 19, 3) := by decide +kernel
theorem dL_withdraw_13 : decode cL_withdraw 13 = .ok (.astore 4, 2) := by decide +kernel
theorem dL_withdraw_15 : decode cL_withdraw 15 = .ok (.iconst 1, 1) := by decide +kernel
theorem dL_withdraw_16 : decode cL_withdraw 16 = .ok (.ireturn, 1) := by decide +kernel
theorem dL_withdraw_17 : decode cL_withdraw 17 = .ok (.astore 4, 2) := by decide +kernel
theorem dL_withdraw_19 : decode cL_withdraw 19 = .ok (.iconst 2, 1) := by decide +kernel
theorem dL_withdraw_20 : decode cL_withdraw 20 = .ok (.ireturn, 1) := by decide +kernel
theorem dL_withdraw_21 : decode cL_withdraw 21 = .ok (.astore 4, 2) := by decide +kernel
theorem dL_withdraw_23 : decode cL_withdraw 23 = .ok (.iconst 3, 1) := by decide +kernel
theorem dL_withdraw_24 : decode cL_withdraw 24 = .ok (.ireturn, 1) := by decide +kernel
theorem dL_withdraw_25 : decode cL_withdraw 25 = .ok (.astore 4, 2) := by decide +kernel
theorem dL_withdraw_27 : decode cL_withdraw 27 = .ok (.iconst 4, 1) := by decide +kernel
theorem dL_withdraw_28 : decode cL_withdraw 28 = .ok (.ireturn, 1) := by decide +kernel
theorem dL_withdraw_29 : decode cL_withdraw 29 = .ok (.iconst 0, 1) := by decide +kernel
theorem dL_withdraw_30 : decode cL_withdraw 30 = .ok (.ireturn, 1) := by decide +kernel
theorem dL_contribute_0 : decode cL_contribute 0 = .ok (.aload_n 3, 1) := by decide +kernel
theorem dL_contribute_1 : decode cL_contribute 1 = .ok (.iconst 0, 1) := by decide +kernel
theorem dL_contribute_2 : decode cL_contribute 2 = .ok (.aload_n 0, 1) := by decide +kernel
theorem dL_contribute_3 : decode cL_contribute 3 = .ok (.iload_n 1, 1) := by decide +kernel
theorem dL_contribute_4 : decode cL_contribute 4 = .ok (.iload_n 2, 1) := by decide +kernel
theorem dL_contribute_5 : decode cL_contribute 5 = .ok (.invokevirtual 38, 3) := by decide +kernel
theorem dL_contribute_8 : decode cL_contribute 8 = .ok (.i2l, 1) := by decide +kernel
theorem dL_contribute_9 : decode cL_contribute 9 = .ok (.lastore, 1) := by decide +kernel
theorem dL_contribute_10 : decode cL_contribute 10 = .ok (.goto 19, 3) := by decide +kernel
theorem dL_contribute_13 : decode cL_contribute 13 = .ok (.astore 4, 2) := by decide +kernel
theorem dL_contribute_15 : decode cL_contribute 15 = .ok (.iconst 1, 1) := by decide +kernel
theorem dL_contribute_16 : decode cL_contribute 16 = .ok (.ireturn, 1) := by decide +kernel
theorem dL_contribute_17 : decode cL_contribute 17 = .ok (.astore 4, 2) := by decide +kernel
theorem dL_contribute_19 : decode cL_contribute 19 = .ok (.iconst 2, 1) := by decide +kernel
theorem dL_contribute_20 : decode cL_contribute 20 = .ok (.ireturn, 1) := by decide +kernel
theorem dL_contribute_21 : decode cL_contribute 21 = .ok (.astore 4, 2) := by decide +kernel
theorem dL_contribute_23 : decode cL_contribute 23 = .ok (.iconst 3, 1) := by decide +kernel
theorem dL_contribute_24 : decode cL_contribute 24 = .ok (.ireturn, 1) := by decide +kernel
theorem dL_contribute_25 : decode cL_contribute 25 = .ok (.astore 4, 2) := by decide +kernel
theorem dL_contribute_27 : decode cL_contribute 27 = .ok (.iconst 4, 1) := by decide +kernel
theorem dL_contribute_28 : decode cL_contribute 28 = .ok (.ireturn, 1) := by decide +kernel
theorem dL_contribute_29 : decode cL_contribute 29 = .ok (.iconst 0, 1) := by decide +kernel
theorem dL_contribute_30 : decode cL_contribute 30 = .ok (.ireturn, 1) := by decide +kernel
theorem dL_priceOf_0 : decode cL_priceOf 0 = .ok (.aload_n 2, 1) := by decide +kernel
theorem dL_priceOf_1 : decode cL_priceOf 1 = .ok (.iconst 0, 1) := by decide +kernel
theorem dL_priceOf_2 : decode cL_priceOf 2 = .ok (.aload_n 0, 1) := by decide +kernel
theorem dL_priceOf_3 : decode cL_priceOf 3 = .ok (.iload_n 1, 1) := by decide +kernel
theorem dL_priceOf_4 : decode cL_priceOf 4 = .ok (.invokevirtual 41, 3) := by decide +kernel
theorem dL_priceOf_7 : decode cL_priceOf 7 = .ok (.i2l, 1) := by decide +kernel
theorem dL_priceOf_8 : decode cL_priceOf 8 = .ok (.lastore, 1) := by decide +kernel
theorem dL_priceOf_9 : decode cL_priceOf 9 = .ok (.goto 6, 3) := by decide +kernel
theorem dL_priceOf_12 : decode cL_priceOf 12 = .ok (.astore_n 3, 1) := by decide +kernel
theorem dL_priceOf_13 : decode cL_priceOf 13 = .ok (.iconst 1, 1) := by decide +kernel
theorem dL_priceOf_14 : decode cL_priceOf 14 = .ok (.ireturn, 1) := by decide +kernel
theorem dL_priceOf_15 : decode cL_priceOf 15 = .ok (.iconst 0, 1) := by decide +kernel
theorem dL_priceOf_16 : decode cL_priceOf 16 = .ok (.ireturn, 1) := by decide +kernel
theorem dL_quoteOf_0 : decode cL_quoteOf 0 = .ok (.aload_n 2, 1) := by decide +kernel
theorem dL_quoteOf_1 : decode cL_quoteOf 1 = .ok (.iconst 0, 1) := by decide +kernel
theorem dL_quoteOf_2 : decode cL_quoteOf 2 = .ok (.aload_n 0, 1) := by decide +kernel
theorem dL_quoteOf_3 : decode cL_quoteOf 3 = .ok (.iload_n 1, 1) := by decide +kernel
theorem dL_quoteOf_4 : decode cL_quoteOf 4 = .ok (.invokevirtual 44, 3) := by decide +kernel
theorem dL_quoteOf_7 : decode cL_quoteOf 7 = .ok (.i2l, 1) := by decide +kernel
theorem dL_quoteOf_8 : decode cL_quoteOf 8 = .ok (.lastore, 1) := by decide +kernel
theorem dL_quoteOf_9 : decode cL_quoteOf 9 = .ok (.goto 6, 3) := by decide +kernel
theorem dL_quoteOf_12 : decode cL_quoteOf 12 = .ok (.astore_n 3, 1) := by decide +kernel
theorem dL_quoteOf_13 : decode cL_quoteOf 13 = .ok (.iconst 1, 1) := by decide +kernel
theorem dL_quoteOf_14 : decode cL_quoteOf 14 = .ok (.ireturn, 1) := by decide +kernel
theorem dL_quoteOf_15 : decode cL_quoteOf 15 = .ok (.iconst 0, 1) := by decide +kernel
theorem dL_quoteOf_16 : decode cL_quoteOf 16 = .ok (.ireturn, 1) := by decide +kernel
theorem dL_rangeOf_0 : decode cL_rangeOf 0 = .ok (.aload_n 2, 1) := by decide +kernel
theorem dL_rangeOf_1 : decode cL_rangeOf 1 = .ok (.iconst 0, 1) := by decide +kernel
theorem dL_rangeOf_2 : decode cL_rangeOf 2 = .ok (.aload_n 0, 1) := by decide +kernel
theorem dL_rangeOf_3 : decode cL_rangeOf 3 = .ok (.iload_n 1, 1) := by decide +kernel
theorem dL_rangeOf_4 : decode cL_rangeOf 4 = .ok (.invokevirtual 47, 3) := by decide +kernel
theorem dL_rangeOf_7 : decode cL_rangeOf 7 = .ok (.i2l, 1) := by decide +kernel
theorem dL_rangeOf_8 : decode cL_rangeOf 8 = .ok (.lastore, 1) := by decide +kernel
theorem dL_rangeOf_9 : decode cL_rangeOf 9 = .ok (.goto 6, 3) := by decide +kernel
theorem dL_rangeOf_12 : decode cL_rangeOf 12 = .ok (.astore_n 3, 1) := by decide +kernel
theorem dL_rangeOf_13 : decode cL_rangeOf 13 = .ok (.iconst 1, 1) := by decide +kernel
theorem dL_rangeOf_14 : decode cL_rangeOf 14 = .ok (.ireturn, 1) := by decide +kernel
theorem dL_rangeOf_15 : decode cL_rangeOf 15 = .ok (.iconst 0, 1) := by decide +kernel
theorem dL_rangeOf_16 : decode cL_rangeOf 16 = .ok (.ireturn, 1) := by decide +kernel
theorem dL_moneyOf_0 : decode cL_moneyOf 0 = .ok (.aload_n 2, 1) := by decide +kernel
theorem dL_moneyOf_1 : decode cL_moneyOf 1 = .ok (.iconst 0, 1) := by decide +kernel
theorem dL_moneyOf_2 : decode cL_moneyOf 2 = .ok (.aload_n 0, 1) := by decide +kernel
theorem dL_moneyOf_3 : decode cL_moneyOf 3 = .ok (.iload_n 1, 1) := by decide +kernel
theorem dL_moneyOf_4 : decode cL_moneyOf 4 = .ok (.invokevirtual 50, 3) := by decide +kernel
theorem dL_moneyOf_7 : decode cL_moneyOf 7 = .ok (.i2l, 1) := by decide +kernel
theorem dL_moneyOf_8 : decode cL_moneyOf 8 = .ok (.lastore, 1) := by decide +kernel
theorem dL_moneyOf_9 : decode cL_moneyOf 9 = .ok (.goto 6, 3) := by decide +kernel
theorem dL_moneyOf_12 : decode cL_moneyOf 12 = .ok (.astore_n 3, 1) := by decide +kernel
theorem dL_moneyOf_13 : decode cL_moneyOf 13 = .ok (.iconst 1, 1) := by decide +kernel
theorem dL_moneyOf_14 : decode cL_moneyOf 14 = .ok (.ireturn, 1) := by decide +kernel
theorem dL_moneyOf_15 : decode cL_moneyOf 15 = .ok (.iconst 0, 1) := by decide +kernel
theorem dL_moneyOf_16 : decode cL_moneyOf 16 = .ok (.ireturn, 1) := by decide +kernel
theorem dL_isCalled_0 : decode cL_isCalled 0 = .ok (.aload_n 2, 1) := by decide +kernel
theorem dL_isCalled_1 : decode cL_isCalled 1 = .ok (.iconst 0, 1) := by decide +kernel
theorem dL_isCalled_2 : decode cL_isCalled 2 = .ok (.aload_n 0, 1) := by decide +kernel
theorem dL_isCalled_3 : decode cL_isCalled 3 = .ok (.iload_n 1, 1) := by decide +kernel
theorem dL_isCalled_4 : decode cL_isCalled 4 = .ok (.invokevirtual 53, 3) := by decide +kernel
theorem dL_isCalled_7 : decode cL_isCalled 7 = .ok (.ifCond .eq 7, 3) := by decide +kernel
theorem dL_isCalled_10 : decode cL_isCalled 10 = .ok (.lconst 1, 1) := by decide +kernel
theorem dL_isCalled_11 : decode cL_isCalled 11 = .ok (.goto 4, 3) := by decide +kernel
theorem dL_isCalled_14 : decode cL_isCalled 14 = .ok (.lconst 0, 1) := by decide +kernel
theorem dL_isCalled_15 : decode cL_isCalled 15 = .ok (.lastore, 1) := by decide +kernel
theorem dL_isCalled_16 : decode cL_isCalled 16 = .ok (.goto 6, 3) := by decide +kernel
theorem dL_isCalled_19 : decode cL_isCalled 19 = .ok (.astore_n 3, 1) := by decide +kernel
theorem dL_isCalled_20 : decode cL_isCalled 20 = .ok (.iconst 1, 1) := by decide +kernel
theorem dL_isCalled_21 : decode cL_isCalled 21 = .ok (.ireturn, 1) := by decide +kernel
theorem dL_isCalled_22 : decode cL_isCalled 22 = .ok (.iconst 0, 1) := by decide +kernel
theorem dL_isCalled_23 : decode cL_isCalled 23 = .ok (.ireturn, 1) := by decide +kernel
theorem dL_hasDefaulted_0 : decode cL_hasDefaulted 0 = .ok (.aload_n 2, 1) := by decide +kernel
theorem dL_hasDefaulted_1 : decode cL_hasDefaulted 1 = .ok (.iconst 0, 1) := by decide +kernel
theorem dL_hasDefaulted_2 : decode cL_hasDefaulted 2 = .ok (.aload_n 0, 1) := by decide +kernel
theorem dL_hasDefaulted_3 : decode cL_hasDefaulted 3 = .ok (.iload_n 1, 1) := by decide +kernel
theorem dL_hasDefaulted_4 : decode cL_hasDefaulted 4 = .ok (.invokevirtual 57, 3) := by decide +kernel
theorem dL_hasDefaulted_7 : decode cL_hasDefaulted 7 = .ok (.ifCond .eq 7, 3) := by decide +kernel
theorem dL_hasDefaulted_10 : decode cL_hasDefaulted 10 = .ok (.lconst 1, 1) := by decide +kernel
theorem dL_hasDefaulted_11 : decode cL_hasDefaulted 11 = .ok (.goto 4, 3) := by decide +kernel
theorem dL_hasDefaulted_14 : decode cL_hasDefaulted 14 = .ok (.lconst 0, 1) := by decide +kernel
theorem dL_hasDefaulted_15 : decode cL_hasDefaulted 15 = .ok (.lastore, 1) := by decide +kernel
theorem dL_hasDefaulted_16 : decode cL_hasDefaulted 16 = .ok (.goto 6, 3) := by decide +kernel
theorem dL_hasDefaulted_19 : decode cL_hasDefaulted 19 = .ok (.astore_n 3, 1) := by decide +kernel
theorem dL_hasDefaulted_20 : decode cL_hasDefaulted 20 = .ok (.iconst 1, 1) := by decide +kernel
theorem dL_hasDefaulted_21 : decode cL_hasDefaulted 21 = .ok (.ireturn, 1) := by decide +kernel
theorem dL_hasDefaulted_22 : decode cL_hasDefaulted 22 = .ok (.iconst 0, 1) := by decide +kernel
theorem dL_hasDefaulted_23 : decode cL_hasDefaulted 23 = .ok (.ireturn, 1) := by decide +kernel
theorem dL_positionOf_0 : decode cL_positionOf 0 = .ok (.aload_n 3, 1) := by decide +kernel
theorem dL_positionOf_1 : decode cL_positionOf 1 = .ok (.iconst 0, 1) := by decide +kernel
theorem dL_positionOf_2 : decode cL_positionOf 2 = .ok (.aload_n 0, 1) := by decide +kernel
theorem dL_positionOf_3 : decode cL_positionOf 3 = .ok (.iload_n 1, 1) := by decide +kernel
theorem dL_positionOf_4 : decode cL_positionOf 4 = .ok (.iload_n 2, 1) := by decide +kernel
theorem dL_positionOf_5 : decode cL_positionOf 5 = .ok (.invokevirtual 60, 3) := by decide +kernel
theorem dL_positionOf_8 : decode cL_positionOf 8 = .ok (.i2l, 1) := by decide +kernel
theorem dL_positionOf_9 : decode cL_positionOf 9 = .ok (.lastore, 1) := by decide +kernel
theorem dL_positionOf_10 : decode cL_positionOf 10 = .ok (.goto 7, 3) := by decide +kernel
theorem dL_positionOf_13 : decode cL_positionOf 13 = .ok (.astore 4, 2) := by decide +kernel
theorem dL_positionOf_15 : decode cL_positionOf 15 = .ok (.iconst 1, 1) := by decide +kernel
theorem dL_positionOf_16 : decode cL_positionOf 16 = .ok (.ireturn, 1) := by decide +kernel
theorem dL_positionOf_17 : decode cL_positionOf 17 = .ok (.iconst 0, 1) := by decide +kernel
theorem dL_positionOf_18 : decode cL_positionOf 18 = .ok (.ireturn, 1) := by decide +kernel
theorem dL_openQuantity_0 : decode cL_openQuantity 0 = .ok (.aload_n 2, 1) := by decide +kernel
theorem dL_openQuantity_1 : decode cL_openQuantity 1 = .ok (.iconst 0, 1) := by decide +kernel
theorem dL_openQuantity_2 : decode cL_openQuantity 2 = .ok (.aload_n 0, 1) := by decide +kernel
theorem dL_openQuantity_3 : decode cL_openQuantity 3 = .ok (.iload_n 1, 1) := by decide +kernel
theorem dL_openQuantity_4 : decode cL_openQuantity 4 = .ok (.invokevirtual 63, 3) := by decide +kernel
theorem dL_openQuantity_7 : decode cL_openQuantity 7 = .ok (.i2l, 1) := by decide +kernel
theorem dL_openQuantity_8 : decode cL_openQuantity 8 = .ok (.lastore, 1) := by decide +kernel
theorem dL_openQuantity_9 : decode cL_openQuantity 9 = .ok (.goto 6, 3) := by decide +kernel
theorem dL_openQuantity_12 : decode cL_openQuantity 12 = .ok (.astore_n 3, 1) := by decide +kernel
theorem dL_openQuantity_13 : decode cL_openQuantity 13 = .ok (.iconst 1, 1) := by decide +kernel
theorem dL_openQuantity_14 : decode cL_openQuantity 14 = .ok (.ireturn, 1) := by decide +kernel
theorem dL_openQuantity_15 : decode cL_openQuantity 15 = .ok (.iconst 0, 1) := by decide +kernel
theorem dL_openQuantity_16 : decode cL_openQuantity 16 = .ok (.ireturn, 1) := by decide +kernel
theorem dL_buyerOf_0 : decode cL_buyerOf 0 = .ok (.aload_n 2, 1) := by decide +kernel
theorem dL_buyerOf_1 : decode cL_buyerOf 1 = .ok (.iconst 0, 1) := by decide +kernel
theorem dL_buyerOf_2 : decode cL_buyerOf 2 = .ok (.aload_n 0, 1) := by decide +kernel
theorem dL_buyerOf_3 : decode cL_buyerOf 3 = .ok (.iload_n 1, 1) := by decide +kernel
theorem dL_buyerOf_4 : decode cL_buyerOf 4 = .ok (.invokevirtual 66, 3) := by decide +kernel
theorem dL_buyerOf_7 : decode cL_buyerOf 7 = .ok (.i2l, 1) := by decide +kernel
theorem dL_buyerOf_8 : decode cL_buyerOf 8 = .ok (.lastore, 1) := by decide +kernel
theorem dL_buyerOf_9 : decode cL_buyerOf 9 = .ok (.goto 6, 3) := by decide +kernel
theorem dL_buyerOf_12 : decode cL_buyerOf 12 = .ok (.astore_n 3, 1) := by decide +kernel
theorem dL_buyerOf_13 : decode cL_buyerOf 13 = .ok (.iconst 1, 1) := by decide +kernel
theorem dL_buyerOf_14 : decode cL_buyerOf 14 = .ok (.ireturn, 1) := by decide +kernel
theorem dL_buyerOf_15 : decode cL_buyerOf 15 = .ok (.iconst 0, 1) := by decide +kernel
theorem dL_buyerOf_16 : decode cL_buyerOf 16 = .ok (.ireturn, 1) := by decide +kernel
theorem dL_sellerOf_0 : decode cL_sellerOf 0 = .ok (.aload_n 2, 1) := by decide +kernel
theorem dL_sellerOf_1 : decode cL_sellerOf 1 = .ok (.iconst 0, 1) := by decide +kernel
theorem dL_sellerOf_2 : decode cL_sellerOf 2 = .ok (.aload_n 0, 1) := by decide +kernel
theorem dL_sellerOf_3 : decode cL_sellerOf 3 = .ok (.iload_n 1, 1) := by decide +kernel
theorem dL_sellerOf_4 : decode cL_sellerOf 4 = .ok (.invokevirtual 69, 3) := by decide +kernel
theorem dL_sellerOf_7 : decode cL_sellerOf 7 = .ok (.i2l, 1) := by decide +kernel
theorem dL_sellerOf_8 : decode cL_sellerOf 8 = .ok (.lastore, 1) := by decide +kernel
theorem dL_sellerOf_9 : decode cL_sellerOf 9 = .ok (.goto 6, 3) := by decide +kernel
theorem dL_sellerOf_12 : decode cL_sellerOf 12 = .ok (.astore_n 3, 1) := by decide +kernel
theorem dL_sellerOf_13 : decode cL_sellerOf 13 = .ok (.iconst 1, 1) := by decide +kernel
theorem dL_sellerOf_14 : decode cL_sellerOf 14 = .ok (.ireturn, 1) := by decide +kernel
theorem dL_sellerOf_15 : decode cL_sellerOf 15 = .ok (.iconst 0, 1) := by decide +kernel
theorem dL_sellerOf_16 : decode cL_sellerOf 16 = .ok (.ireturn, 1) := by decide +kernel
theorem dL_horizonOf_0 : decode cL_horizonOf 0 = .ok (.aload_n 2, 1) := by decide +kernel
theorem dL_horizonOf_1 : decode cL_horizonOf 1 = .ok (.iconst 0, 1) := by decide +kernel
theorem dL_horizonOf_2 : decode cL_horizonOf 2 = .ok (.aload_n 0, 1) := by decide +kernel
theorem dL_horizonOf_3 : decode cL_horizonOf 3 = .ok (.iload_n 1, 1) := by decide +kernel
theorem dL_horizonOf_4 : decode cL_horizonOf 4 = .ok (.invokevirtual 72, 3) := by decide +kernel
theorem dL_horizonOf_7 : decode cL_horizonOf 7 = .ok (.i2l, 1) := by decide +kernel
theorem dL_horizonOf_8 : decode cL_horizonOf 8 = .ok (.lastore, 1) := by decide +kernel
theorem dL_horizonOf_9 : decode cL_horizonOf 9 = .ok (.goto 6, 3) := by decide +kernel
theorem dL_horizonOf_12 : decode cL_horizonOf 12 = .ok (.astore_n 3, 1) := by decide +kernel
theorem dL_horizonOf_13 : decode cL_horizonOf 13 = .ok (.iconst 1, 1) := by decide +kernel
theorem dL_horizonOf_14 : decode cL_horizonOf 14 = .ok (.ireturn, 1) := by decide +kernel
theorem dL_horizonOf_15 : decode cL_horizonOf 15 = .ok (.iconst 0, 1) := by decide +kernel
theorem dL_horizonOf_16 : decode cL_horizonOf 16 = .ok (.ireturn, 1) := by decide +kernel
theorem dL_quantityOf_0 : decode cL_quantityOf 0 = .ok (.aload_n 2, 1) := by decide +kernel
theorem dL_quantityOf_1 : decode cL_quantityOf 1 = .ok (.iconst 0, 1) := by decide +kernel
theorem dL_quantityOf_2 : decode cL_quantityOf 2 = .ok (.aload_n 0, 1) := by decide +kernel
theorem dL_quantityOf_3 : decode cL_quantityOf 3 = .ok (.iload_n 1, 1) := by decide +kernel
theorem dL_quantityOf_4 : decode cL_quantityOf 4 = .ok (.invokevirtual 75, 3) := by decide +kernel
theorem dL_quantityOf_7 : decode cL_quantityOf 7 = .ok (.i2l, 1) := by decide +kernel
theorem dL_quantityOf_8 : decode cL_quantityOf 8 = .ok (.lastore, 1) := by decide +kernel
theorem dL_quantityOf_9 : decode cL_quantityOf 9 = .ok (.goto 6, 3) := by decide +kernel
theorem dL_quantityOf_12 : decode cL_quantityOf 12 = .ok (.astore_n 3, 1) := by decide +kernel
theorem dL_quantityOf_13 : decode cL_quantityOf 13 = .ok (.iconst 1, 1) := by decide +kernel
theorem dL_quantityOf_14 : decode cL_quantityOf 14 = .ok (.ireturn, 1) := by decide +kernel
theorem dL_quantityOf_15 : decode cL_quantityOf 15 = .ok (.iconst 0, 1) := by decide +kernel
theorem dL_quantityOf_16 : decode cL_quantityOf 16 = .ok (.ireturn, 1) := by decide +kernel
theorem dL_daysLeft_0 : decode cL_daysLeft 0 = .ok (.aload_n 2, 1) := by decide +kernel
theorem dL_daysLeft_1 : decode cL_daysLeft 1 = .ok (.iconst 0, 1) := by decide +kernel
theorem dL_daysLeft_2 : decode cL_daysLeft 2 = .ok (.aload_n 0, 1) := by decide +kernel
theorem dL_daysLeft_3 : decode cL_daysLeft 3 = .ok (.iload_n 1, 1) := by decide +kernel
theorem dL_daysLeft_4 : decode cL_daysLeft 4 = .ok (.invokevirtual 78, 3) := by decide +kernel
theorem dL_daysLeft_7 : decode cL_daysLeft 7 = .ok (.i2l, 1) := by decide +kernel
theorem dL_daysLeft_8 : decode cL_daysLeft 8 = .ok (.lastore, 1) := by decide +kernel
theorem dL_daysLeft_9 : decode cL_daysLeft 9 = .ok (.goto 6, 3) := by decide +kernel
theorem dL_daysLeft_12 : decode cL_daysLeft 12 = .ok (.astore_n 3, 1) := by decide +kernel
theorem dL_daysLeft_13 : decode cL_daysLeft 13 = .ok (.iconst 1, 1) := by decide +kernel
theorem dL_daysLeft_14 : decode cL_daysLeft 14 = .ok (.ireturn, 1) := by decide +kernel
theorem dL_daysLeft_15 : decode cL_daysLeft 15 = .ok (.iconst 0, 1) := by decide +kernel
theorem dL_daysLeft_16 : decode cL_daysLeft 16 = .ok (.ireturn, 1) := by decide +kernel
theorem dL_marginOf_0 : decode cL_marginOf 0 = .ok (.aload_n 2, 1) := by decide +kernel
theorem dL_marginOf_1 : decode cL_marginOf 1 = .ok (.iconst 0, 1) := by decide +kernel
theorem dL_marginOf_2 : decode cL_marginOf 2 = .ok (.aload_n 0, 1) := by decide +kernel
theorem dL_marginOf_3 : decode cL_marginOf 3 = .ok (.iload_n 1, 1) := by decide +kernel
theorem dL_marginOf_4 : decode cL_marginOf 4 = .ok (.invokevirtual 81, 3) := by decide +kernel
theorem dL_marginOf_7 : decode cL_marginOf 7 = .ok (.i2l, 1) := by decide +kernel
theorem dL_marginOf_8 : decode cL_marginOf 8 = .ok (.lastore, 1) := by decide +kernel
theorem dL_marginOf_9 : decode cL_marginOf 9 = .ok (.goto 6, 3) := by decide +kernel
theorem dL_marginOf_12 : decode cL_marginOf 12 = .ok (.astore_n 3, 1) := by decide +kernel
theorem dL_marginOf_13 : decode cL_marginOf 13 = .ok (.iconst 1, 1) := by decide +kernel
theorem dL_marginOf_14 : decode cL_marginOf 14 = .ok (.ireturn, 1) := by decide +kernel
theorem dL_marginOf_15 : decode cL_marginOf 15 = .ok (.iconst 0, 1) := by decide +kernel
theorem dL_marginOf_16 : decode cL_marginOf 16 = .ok (.ireturn, 1) := by decide +kernel
theorem dL_marginByPositions_0 : decode cL_marginByPositions 0 = .ok (.aload_n 2, 1) := by decide +kernel
theorem dL_marginByPositions_1 : decode cL_marginByPositions 1 = .ok (.iconst 0, 1) := by decide +kernel
theorem dL_marginByPositions_2 : decode cL_marginByPositions 2 = .ok (.aload_n 0, 1) := by decide +kernel
theorem dL_marginByPositions_3 : decode cL_marginByPositions 3 = .ok (.iload_n 1, 1) := by decide +kernel
theorem dL_marginByPositions_4 : decode cL_marginByPositions 4 = .ok (.invokevirtual 84, 3) := by decide +kernel
theorem dL_marginByPositions_7 : decode cL_marginByPositions 7 = .ok (.i2l, 1) := by decide +kernel
theorem dL_marginByPositions_8 : decode cL_marginByPositions 8 = .ok (.lastore, 1) := by decide +kernel
theorem dL_marginByPositions_9 : decode cL_marginByPositions 9 = .ok (.goto 6, 3) := by decide +kernel
theorem dL_marginByPositions_12 : decode cL_marginByPositions 12 = .ok (.astore_n 3, 1) := by decide +kernel
theorem dL_marginByPositions_13 : decode cL_marginByPositions 13 = .ok (.iconst 1, 1) := by decide +kernel
theorem dL_marginByPositions_14 : decode cL_marginByPositions 14 = .ok (.ireturn, 1) := by decide +kernel
theorem dL_marginByPositions_15 : decode cL_marginByPositions 15 = .ok (.iconst 0, 1) := by decide +kernel
theorem dL_marginByPositions_16 : decode cL_marginByPositions 16 = .ok (.ireturn, 1) := by decide +kernel
theorem dL_variationOf_0 : decode cL_variationOf 0 = .ok (.aload_n 2, 1) := by decide +kernel
theorem dL_variationOf_1 : decode cL_variationOf 1 = .ok (.iconst 0, 1) := by decide +kernel
theorem dL_variationOf_2 : decode cL_variationOf 2 = .ok (.aload_n 0, 1) := by decide +kernel
theorem dL_variationOf_3 : decode cL_variationOf 3 = .ok (.iload_n 1, 1) := by decide +kernel
theorem dL_variationOf_4 : decode cL_variationOf 4 = .ok (.invokevirtual 87, 3) := by decide +kernel
theorem dL_variationOf_7 : decode cL_variationOf 7 = .ok (.i2l, 1) := by decide +kernel
theorem dL_variationOf_8 : decode cL_variationOf 8 = .ok (.lastore, 1) := by decide +kernel
theorem dL_variationOf_9 : decode cL_variationOf 9 = .ok (.goto 6, 3) := by decide +kernel
theorem dL_variationOf_12 : decode cL_variationOf 12 = .ok (.astore_n 3, 1) := by decide +kernel
theorem dL_variationOf_13 : decode cL_variationOf 13 = .ok (.iconst 1, 1) := by decide +kernel
theorem dL_variationOf_14 : decode cL_variationOf 14 = .ok (.ireturn, 1) := by decide +kernel
theorem dL_variationOf_15 : decode cL_variationOf 15 = .ok (.iconst 0, 1) := by decide +kernel
theorem dL_variationOf_16 : decode cL_variationOf 16 = .ok (.ireturn, 1) := by decide +kernel
theorem dL_leastMargins_0 : decode cL_leastMargins 0 = .ok (.aload_n 2, 1) := by decide +kernel
theorem dL_leastMargins_1 : decode cL_leastMargins 1 = .ok (.iconst 0, 1) := by decide +kernel
theorem dL_leastMargins_2 : decode cL_leastMargins 2 = .ok (.aload_n 0, 1) := by decide +kernel
theorem dL_leastMargins_3 : decode cL_leastMargins 3 = .ok (.iload_n 1, 1) := by decide +kernel
theorem dL_leastMargins_4 : decode cL_leastMargins 4 = .ok (.invokevirtual 90, 3) := by decide +kernel
theorem dL_leastMargins_7 : decode cL_leastMargins 7 = .ok (.i2l, 1) := by decide +kernel
theorem dL_leastMargins_8 : decode cL_leastMargins 8 = .ok (.lastore, 1) := by decide +kernel
theorem dL_leastMargins_9 : decode cL_leastMargins 9 = .ok (.goto 12, 3) := by decide +kernel
theorem dL_leastMargins_12 : decode cL_leastMargins 12 = .ok (.astore_n 3, 1) := by decide +kernel
theorem dL_leastMargins_13 : decode cL_leastMargins 13 = .ok (.iconst 1, 1) := by decide +kernel
theorem dL_leastMargins_14 : decode cL_leastMargins 14 = .ok (.ireturn, 1) := by decide +kernel
theorem dL_leastMargins_15 : decode cL_leastMargins 15 = .ok (.astore_n 3, 1) := by decide +kernel
theorem dL_leastMargins_16 : decode cL_leastMargins 16 = .ok (.iconst 2, 1) := by decide +kernel
theorem dL_leastMargins_17 : decode cL_leastMargins 17 = .ok (.ireturn, 1) := by decide +kernel
theorem dL_leastMargins_18 : decode cL_leastMargins 18 = .ok (.astore_n 3, 1) := by decide +kernel
theorem dL_leastMargins_19 : decode cL_leastMargins 19 = .ok (.iconst 3, 1) := by decide +kernel
theorem dL_leastMargins_20 : decode cL_leastMargins 20 = .ok (.ireturn, 1) := by decide +kernel
theorem dL_leastMargins_21 : decode cL_leastMargins 21 = .ok (.iconst 0, 1) := by decide +kernel
theorem dL_leastMargins_22 : decode cL_leastMargins 22 = .ok (.ireturn, 1) := by decide +kernel
theorem dL_leastMarginsBySets_0 : decode cL_leastMarginsBySets 0 = .ok (.aload_n 2, 1) := by decide +kernel
theorem dL_leastMarginsBySets_1 : decode cL_leastMarginsBySets 1 = .ok (.iconst 0, 1) := by decide +kernel
theorem dL_leastMarginsBySets_2 : decode cL_leastMarginsBySets 2 = .ok (.aload_n 0, 1) := by decide +kernel
theorem dL_leastMarginsBySets_3 : decode cL_leastMarginsBySets 3 = .ok (.iload_n 1, 1) := by decide +kernel
theorem dL_leastMarginsBySets_4 : decode cL_leastMarginsBySets 4 = .ok (.invokevirtual 93, 3) := by decide +kernel
theorem dL_leastMarginsBySets_7 : decode cL_leastMarginsBySets 7 = .ok (.i2l, 1) := by decide +kernel
theorem dL_leastMarginsBySets_8 : decode cL_leastMarginsBySets 8 = .ok (.lastore, 1) := by decide +kernel
theorem dL_leastMarginsBySets_9 : decode cL_leastMarginsBySets 9 = .ok (.goto 12, 3) := by decide +kernel
theorem dL_leastMarginsBySets_12 : decode cL_leastMarginsBySets 12 = .ok (.astore_n 3, 1) := by decide +kernel
theorem dL_leastMarginsBySets_13 : decode cL_leastMarginsBySets 13 = .ok (.iconst 1, 1) := by decide +kernel
theorem dL_leastMarginsBySets_14 : decode cL_leastMarginsBySets 14 = .ok (.ireturn, 1) := by decide +kernel
theorem dL_leastMarginsBySets_15 : decode cL_leastMarginsBySets 15 = .ok (.astore_n 3, 1) := by decide +kernel
theorem dL_leastMarginsBySets_16 : decode cL_leastMarginsBySets 16 = .ok (.iconst 2, 1) := by decide +kernel
theorem dL_leastMarginsBySets_17 : decode cL_leastMarginsBySets 17 = .ok (.ireturn, 1) := by decide +kernel
theorem dL_leastMarginsBySets_18 : decode cL_leastMarginsBySets 18 = .ok (.astore_n 3, 1) := by decide +kernel
theorem dL_leastMarginsBySets_19 : decode cL_leastMarginsBySets 19 = .ok (.iconst 3, 1) := by decide +kernel
theorem dL_leastMarginsBySets_20 : decode cL_leastMarginsBySets 20 = .ok (.ireturn, 1) := by decide +kernel
theorem dL_leastMarginsBySets_21 : decode cL_leastMarginsBySets 21 = .ok (.iconst 0, 1) := by decide +kernel
theorem dL_leastMarginsBySets_22 : decode cL_leastMarginsBySets 22 = .ok (.ireturn, 1) := by decide +kernel
theorem dL_takerOf_0 : decode cL_takerOf 0 = .ok (.aload_n 3, 1) := by decide +kernel
theorem dL_takerOf_1 : decode cL_takerOf 1 = .ok (.iconst 0, 1) := by decide +kernel
theorem dL_takerOf_2 : decode cL_takerOf 2 = .ok (.aload_n 0, 1) := by decide +kernel
theorem dL_takerOf_3 : decode cL_takerOf 3 = .ok (.iload_n 1, 1) := by decide +kernel
theorem dL_takerOf_4 : decode cL_takerOf 4 = .ok (.iload_n 2, 1) := by decide +kernel
theorem dL_takerOf_5 : decode cL_takerOf 5 = .ok (.invokevirtual 96, 3) := by decide +kernel
theorem dL_takerOf_8 : decode cL_takerOf 8 = .ok (.i2l, 1) := by decide +kernel
theorem dL_takerOf_9 : decode cL_takerOf 9 = .ok (.lastore, 1) := by decide +kernel
theorem dL_takerOf_10 : decode cL_takerOf 10 = .ok (.goto 19, 3) := by decide +kernel
theorem dL_takerOf_13 : decode cL_takerOf 13 = .ok (.astore 4, 2) := by decide +kernel
theorem dL_takerOf_15 : decode cL_takerOf 15 = .ok (.iconst 1, 1) := by decide +kernel
theorem dL_takerOf_16 : decode cL_takerOf 16 = .ok (.ireturn, 1) := by decide +kernel
theorem dL_takerOf_17 : decode cL_takerOf 17 = .ok (.astore 4, 2) := by decide +kernel
theorem dL_takerOf_19 : decode cL_takerOf 19 = .ok (.iconst 2, 1) := by decide +kernel
theorem dL_takerOf_20 : decode cL_takerOf 20 = .ok (.ireturn, 1) := by decide +kernel
theorem dL_takerOf_21 : decode cL_takerOf 21 = .ok (.astore 4, 2) := by decide +kernel
theorem dL_takerOf_23 : decode cL_takerOf 23 = .ok (.iconst 3, 1) := by decide +kernel
theorem dL_takerOf_24 : decode cL_takerOf 24 = .ok (.ireturn, 1) := by decide +kernel
theorem dL_takerOf_25 : decode cL_takerOf 25 = .ok (.astore 4, 2) := by decide +kernel
theorem dL_takerOf_27 : decode cL_takerOf 27 = .ok (.iconst 4, 1) := by decide +kernel
theorem dL_takerOf_28 : decode cL_takerOf 28 = .ok (.ireturn, 1) := by decide +kernel
theorem dL_takerOf_29 : decode cL_takerOf 29 = .ok (.iconst 0, 1) := by decide +kernel
theorem dL_takerOf_30 : decode cL_takerOf 30 = .ok (.ireturn, 1) := by decide +kernel
theorem dL_traderByMoney_0 : decode cL_traderByMoney 0 = .ok (.aload_n 2, 1) := by decide +kernel
theorem dL_traderByMoney_1 : decode cL_traderByMoney 1 = .ok (.iconst 0, 1) := by decide +kernel
theorem dL_traderByMoney_2 : decode cL_traderByMoney 2 = .ok (.aload_n 0, 1) := by decide +kernel
theorem dL_traderByMoney_3 : decode cL_traderByMoney 3 = .ok (.iload_n 1, 1) := by decide +kernel
theorem dL_traderByMoney_4 : decode cL_traderByMoney 4 = .ok (.invokevirtual 101, 3) := by decide +kernel
theorem dL_traderByMoney_7 : decode cL_traderByMoney 7 = .ok (.i2l, 1) := by decide +kernel
theorem dL_traderByMoney_8 : decode cL_traderByMoney 8 = .ok (.lastore, 1) := by decide +kernel
theorem dL_traderByMoney_9 : decode cL_traderByMoney 9 = .ok (.goto 6, 3) := by decide +kernel
theorem dL_traderByMoney_12 : decode cL_traderByMoney 12 = .ok (.astore_n 3, 1) := by decide +kernel
theorem dL_traderByMoney_13 : decode cL_traderByMoney 13 = .ok (.iconst 1, 1) := by decide +kernel
theorem dL_traderByMoney_14 : decode cL_traderByMoney 14 = .ok (.ireturn, 1) := by decide +kernel
theorem dL_traderByMoney_15 : decode cL_traderByMoney 15 = .ok (.iconst 0, 1) := by decide +kernel
theorem dL_traderByMoney_16 : decode cL_traderByMoney 16 = .ok (.ireturn, 1) := by decide +kernel
theorem dL_meanMargin_0 : decode cL_meanMargin 0 = .ok (.aload_n 1, 1) := by decide +kernel
theorem dL_meanMargin_1 : decode cL_meanMargin 1 = .ok (.iconst 0, 1) := by decide +kernel
theorem dL_meanMargin_2 : decode cL_meanMargin 2 = .ok (.aload_n 0, 1) := by decide +kernel
theorem dL_meanMargin_3 : decode cL_meanMargin 3 = .ok (.invokevirtual 104, 3) := by decide +kernel
theorem dL_meanMargin_6 : decode cL_meanMargin 6 = .ok (.dastore, 1) := by decide +kernel
theorem dL_meanMargin_7 : decode cL_meanMargin 7 = .ok (.goto 6, 3) := by decide +kernel
theorem dL_meanMargin_10 : decode cL_meanMargin 10 = .ok (.astore_n 2, 1) := by decide +kernel
theorem dL_meanMargin_11 : decode cL_meanMargin 11 = .ok (.iconst 1, 1) := by decide +kernel
theorem dL_meanMargin_12 : decode cL_meanMargin 12 = .ok (.ireturn, 1) := by decide +kernel
theorem dL_meanMargin_13 : decode cL_meanMargin 13 = .ok (.iconst 0, 1) := by decide +kernel
theorem dL_meanMargin_14 : decode cL_meanMargin 14 = .ok (.ireturn, 1) := by decide +kernel
theorem dL_soundShare_0 : decode cL_soundShare 0 = .ok (.aload_n 1, 1) := by decide +kernel
theorem dL_soundShare_1 : decode cL_soundShare 1 = .ok (.iconst 0, 1) := by decide +kernel
theorem dL_soundShare_2 : decode cL_soundShare 2 = .ok (.aload_n 0, 1) := by decide +kernel
theorem dL_soundShare_3 : decode cL_soundShare 3 = .ok (.invokevirtual 110, 3) := by decide +kernel
theorem dL_soundShare_6 : decode cL_soundShare 6 = .ok (.f2d, 1) := by decide +kernel
theorem dL_soundShare_7 : decode cL_soundShare 7 = .ok (.dastore, 1) := by decide +kernel
theorem dL_soundShare_8 : decode cL_soundShare 8 = .ok (.goto 6, 3) := by decide +kernel
theorem dL_soundShare_11 : decode cL_soundShare 11 = .ok (.astore_n 2, 1) := by decide +kernel
theorem dL_soundShare_12 : decode cL_soundShare 12 = .ok (.iconst 1, 1) := by decide +kernel
theorem dL_soundShare_13 : decode cL_soundShare 13 = .ok (.ireturn, 1) := by decide +kernel
theorem dL_soundShare_14 : decode cL_soundShare 14 = .ok (.iconst 0, 1) := by decide +kernel
theorem dL_soundShare_15 : decode cL_soundShare 15 = .ok (.ireturn, 1) := by decide +kernel
theorem dL_writeContract_0 : decode cL_writeContract 0 = .ok (.aload_n 2, 1) := by decide +kernel
theorem dL_writeContract_1 : decode cL_writeContract 1 = .ok (.iconst 0, 1) := by decide +kernel
theorem dL_writeContract_2 : decode cL_writeContract 2 = .ok (.aload_n 0, 1) := by decide +kernel
theorem dL_writeContract_3 : decode cL_writeContract 3 = .ok (.iload_n 1, 1) := by decide +kernel
theorem dL_writeContract_4 : decode cL_writeContract 4 = .ok (.invokevirtual 114, 3) := by decide +kernel
theorem dL_writeContract_7 : decode cL_writeContract 7 = .ok (.i2l, 1) := by decide +kernel
theorem dL_writeContract_8 : decode cL_writeContract 8 = .ok (.lastore, 1) := by decide +kernel
theorem dL_writeContract_9 : decode cL_writeContract 9 = .ok (.goto 6, 3) := by decide +kernel
theorem dL_writeContract_12 : decode cL_writeContract 12 = .ok (.astore_n 3, 1) := by decide +kernel
theorem dL_writeContract_13 : decode cL_writeContract 13 = .ok (.iconst 1, 1) := by decide +kernel
theorem dL_writeContract_14 : decode cL_writeContract 14 = .ok (.ireturn, 1) := by decide +kernel
theorem dL_writeContract_15 : decode cL_writeContract 15 = .ok (.iconst 0, 1) := by decide +kernel
theorem dL_writeContract_16 : decode cL_writeContract 16 = .ok (.ireturn, 1) := by decide +kernel
theorem dL_writeTrader_0 : decode cL_writeTrader 0 = .ok (.aload_n 2, 1) := by decide +kernel
theorem dL_writeTrader_1 : decode cL_writeTrader 1 = .ok (.iconst 0, 1) := by decide +kernel
theorem dL_writeTrader_2 : decode cL_writeTrader 2 = .ok (.aload_n 0, 1) := by decide +kernel
theorem dL_writeTrader_3 : decode cL_writeTrader 3 = .ok (.iload_n 1, 1) := by decide +kernel
theorem dL_writeTrader_4 : decode cL_writeTrader 4 = .ok (.invokevirtual 117, 3) := by decide +kernel
theorem dL_writeTrader_7 : decode cL_writeTrader 7 = .ok (.i2l, 1) := by decide +kernel
theorem dL_writeTrader_8 : decode cL_writeTrader 8 = .ok (.lastore, 1) := by decide +kernel
theorem dL_writeTrader_9 : decode cL_writeTrader 9 = .ok (.goto 6, 3) := by decide +kernel
theorem dL_writeTrader_12 : decode cL_writeTrader 12 = .ok (.astore_n 3, 1) := by decide +kernel
theorem dL_writeTrader_13 : decode cL_writeTrader 13 = .ok (.iconst 1, 1) := by decide +kernel
theorem dL_writeTrader_14 : decode cL_writeTrader 14 = .ok (.ireturn, 1) := by decide +kernel
theorem dL_writeTrader_15 : decode cL_writeTrader 15 = .ok (.iconst 0, 1) := by decide +kernel
theorem dL_writeTrader_16 : decode cL_writeTrader 16 = .ok (.ireturn, 1) := by decide +kernel
theorem dL_lineAt_0 : decode cL_lineAt 0 = .ok (.aload_n 2, 1) := by decide +kernel
theorem dL_lineAt_1 : decode cL_lineAt 1 = .ok (.iconst 0, 1) := by decide +kernel
theorem dL_lineAt_2 : decode cL_lineAt 2 = .ok (.aload_n 0, 1) := by decide +kernel
theorem dL_lineAt_3 : decode cL_lineAt 3 = .ok (.iload_n 1, 1) := by decide +kernel
theorem dL_lineAt_4 : decode cL_lineAt 4 = .ok (.invokevirtual 120, 3) := by decide +kernel
theorem dL_lineAt_7 : decode cL_lineAt 7 = .ok (.i2l, 1) := by decide +kernel
theorem dL_lineAt_8 : decode cL_lineAt 8 = .ok (.lastore, 1) := by decide +kernel
theorem dL_lineAt_9 : decode cL_lineAt 9 = .ok (.goto 6, 3) := by decide +kernel
theorem dL_lineAt_12 : decode cL_lineAt 12 = .ok (.astore_n 3, 1) := by decide +kernel
theorem dL_lineAt_13 : decode cL_lineAt 13 = .ok (.iconst 1, 1) := by decide +kernel
theorem dL_lineAt_14 : decode cL_lineAt 14 = .ok (.ireturn, 1) := by decide +kernel
theorem dL_lineAt_15 : decode cL_lineAt 15 = .ok (.iconst 0, 1) := by decide +kernel
theorem dL_lineAt_16 : decode cL_lineAt 16 = .ok (.ireturn, 1) := by decide +kernel
theorem dL_type_0 : decode cL_type 0 = .ok (.aload_n 2, 1) := by decide +kernel
theorem dL_type_1 : decode cL_type 1 = .ok (.iconst 0, 1) := by decide +kernel
theorem dL_type_2 : decode cL_type 2 = .ok (.aload_n 0, 1) := by decide +kernel
theorem dL_type_3 : decode cL_type 3 = .ok (.iload_n 1, 1) := by decide +kernel
theorem dL_type_4 : decode cL_type 4 = .ok (.invokevirtual 124, 3) := by decide +kernel
theorem dL_type_7 : decode cL_type 7 = .ok (.i2l, 1) := by decide +kernel
theorem dL_type_8 : decode cL_type 8 = .ok (.lastore, 1) := by decide +kernel
theorem dL_type_9 : decode cL_type 9 = .ok (.goto 9, 3) := by decide +kernel
theorem dL_type_12 : decode cL_type 12 = .ok (.astore_n 3, 1) := by decide +kernel
theorem dL_type_13 : decode cL_type 13 = .ok (.iconst 1, 1) := by decide +kernel
theorem dL_type_14 : decode cL_type 14 = .ok (.ireturn, 1) := by decide +kernel
theorem dL_type_15 : decode cL_type 15 = .ok (.astore_n 3, 1) := by decide +kernel
theorem dL_type_16 : decode cL_type 16 = .ok (.iconst 2, 1) := by decide +kernel
theorem dL_type_17 : decode cL_type 17 = .ok (.ireturn, 1) := by decide +kernel
theorem dL_type_18 : decode cL_type 18 = .ok (.iconst 0, 1) := by decide +kernel
theorem dL_type_19 : decode cL_type 19 = .ok (.ireturn, 1) := by decide +kernel
theorem dL_execute_0 : decode cL_execute 0 = .ok (.aload_n 1, 1) := by decide +kernel
theorem dL_execute_1 : decode cL_execute 1 = .ok (.iconst 0, 1) := by decide +kernel
theorem dL_execute_2 : decode cL_execute 2 = .ok (.aload_n 0, 1) := by decide +kernel
theorem dL_execute_3 : decode cL_execute 3 = .ok (.invokevirtual 128, 3) := by decide +kernel
theorem dL_execute_6 : decode cL_execute 6 = .ok (.i2l, 1) := by decide +kernel
theorem dL_execute_7 : decode cL_execute 7 = .ok (.lastore, 1) := by decide +kernel
theorem dL_execute_8 : decode cL_execute 8 = .ok (.goto 9, 3) := by decide +kernel
theorem dL_execute_11 : decode cL_execute 11 = .ok (.astore_n 2, 1) := by decide +kernel
theorem dL_execute_12 : decode cL_execute 12 = .ok (.iconst 1, 1) := by decide +kernel
theorem dL_execute_13 : decode cL_execute 13 = .ok (.ireturn, 1) := by decide +kernel
theorem dL_execute_14 : decode cL_execute 14 = .ok (.astore_n 2, 1) := by decide +kernel
theorem dL_execute_15 : decode cL_execute 15 = .ok (.iconst 2, 1) := by decide +kernel
theorem dL_execute_16 : decode cL_execute 16 = .ok (.ireturn, 1) := by decide +kernel
theorem dL_execute_17 : decode cL_execute 17 = .ok (.iconst 0, 1) := by decide +kernel
theorem dL_execute_18 : decode cL_execute 18 = .ok (.ireturn, 1) := by decide +kernel
theorem dL_errorPosition_0 : decode cL_errorPosition 0 = .ok (.aload_n 1, 1) := by decide +kernel
theorem dL_errorPosition_1 : decode cL_errorPosition 1 = .ok (.iconst 0, 1) := by decide +kernel
theorem dL_errorPosition_2 : decode cL_errorPosition 2 = .ok (.aload_n 0, 1) := by decide +kernel
theorem dL_errorPosition_3 : decode cL_errorPosition 3 = .ok (.invokevirtual 132, 3) := by decide +kernel
theorem dL_errorPosition_6 : decode cL_errorPosition 6 = .ok (.i2l, 1) := by decide +kernel
theorem dL_errorPosition_7 : decode cL_errorPosition 7 = .ok (.lastore, 1) := by decide +kernel
theorem dL_errorPosition_8 : decode cL_errorPosition 8 = .ok (.goto 6, 3) := by decide +kernel
theorem dL_errorPosition_11 : decode cL_errorPosition 11 = .ok (.astore_n 2, 1) := by decide +kernel
theorem dL_errorPosition_12 : decode cL_errorPosition 12 = .ok (.iconst 1, 1) := by decide +kernel
theorem dL_errorPosition_13 : decode cL_errorPosition 13 = .ok (.ireturn, 1) := by decide +kernel
theorem dL_errorPosition_14 : decode cL_errorPosition 14 = .ok (.iconst 0, 1) := by decide +kernel
theorem dL_errorPosition_15 : decode cL_errorPosition 15 = .ok (.ireturn, 1) := by decide +kernel
theorem dL_failedCommand_0 : decode cL_failedCommand 0 = .ok (.aload_n 1, 1) := by decide +kernel
theorem dL_failedCommand_1 : decode cL_failedCommand 1 = .ok (.iconst 0, 1) := by decide +kernel
theorem dL_failedCommand_2 : decode cL_failedCommand 2 = .ok (.aload_n 0, 1) := by decide +kernel
theorem dL_failedCommand_3 : decode cL_failedCommand 3 = .ok (.invokevirtual 135, 3) := by decide +kernel
theorem dL_failedCommand_6 : decode cL_failedCommand 6 = .ok (.i2l, 1) := by decide +kernel
theorem dL_failedCommand_7 : decode cL_failedCommand 7 = .ok (.lastore, 1) := by decide +kernel
theorem dL_failedCommand_8 : decode cL_failedCommand 8 = .ok (.goto 6, 3) := by decide +kernel
theorem dL_failedCommand_11 : decode cL_failedCommand 11 = .ok (.astore_n 2, 1) := by decide +kernel
theorem dL_failedCommand_12 : decode cL_failedCommand 12 = .ok (.iconst 1, 1) := by decide +kernel
theorem dL_failedCommand_13 : decode cL_failedCommand 13 = .ok (.ireturn, 1) := by decide +kernel
theorem dL_failedCommand_14 : decode cL_failedCommand 14 = .ok (.iconst 0, 1) := by decide +kernel
theorem dL_failedCommand_15 : decode cL_failedCommand 15 = .ok (.ireturn, 1) := by decide +kernel
theorem dL_undo_0 : decode cL_undo 0 = .ok (.aload_n 1, 1) := by decide +kernel
theorem dL_undo_1 : decode cL_undo 1 = .ok (.iconst 0, 1) := by decide +kernel
theorem dL_undo_2 : decode cL_undo 2 = .ok (.aload_n 0, 1) := by decide +kernel
theorem dL_undo_3 : decode cL_undo 3 = .ok (.invokevirtual 138, 3) := by decide +kernel
theorem dL_undo_6 : decode cL_undo 6 = .ok (.i2l, 1) := by decide +kernel
theorem dL_undo_7 : decode cL_undo 7 = .ok (.lastore, 1) := by decide +kernel
theorem dL_undo_8 : decode cL_undo 8 = .ok (.goto 6, 3) := by decide +kernel
theorem dL_undo_11 : decode cL_undo 11 = .ok (.astore_n 2, 1) := by decide +kernel
theorem dL_undo_12 : decode cL_undo 12 = .ok (.iconst 1, 1) := by decide +kernel
theorem dL_undo_13 : decode cL_undo 13 = .ok (.ireturn, 1) := by decide +kernel
theorem dL_undo_14 : decode cL_undo 14 = .ok (.iconst 0, 1) := by decide +kernel
theorem dL_undo_15 : decode cL_undo 15 = .ok (.ireturn, 1) := by decide +kernel
theorem dL_restore_0 : decode cL_restore 0 = .ok (.aload_n 1, 1) := by decide +kernel
theorem dL_restore_1 : decode cL_restore 1 = .ok (.iconst 0, 1) := by decide +kernel
theorem dL_restore_2 : decode cL_restore 2 = .ok (.aload_n 0, 1) := by decide +kernel
theorem dL_restore_3 : decode cL_restore 3 = .ok (.invokevirtual 141, 3) := by decide +kernel
theorem dL_restore_6 : decode cL_restore 6 = .ok (.i2l, 1) := by decide +kernel
theorem dL_restore_7 : decode cL_restore 7 = .ok (.lastore, 1) := by decide +kernel
theorem dL_restore_8 : decode cL_restore 8 = .ok (.goto 6, 3) := by decide +kernel
theorem dL_restore_11 : decode cL_restore 11 = .ok (.astore_n 2, 1) := by decide +kernel
theorem dL_restore_12 : decode cL_restore 12 = .ok (.iconst 1, 1) := by decide +kernel
theorem dL_restore_13 : decode cL_restore 13 = .ok (.ireturn, 1) := by decide +kernel
theorem dL_restore_14 : decode cL_restore 14 = .ok (.iconst 0, 1) := by decide +kernel
theorem dL_restore_15 : decode cL_restore 15 = .ok (.ireturn, 1) := by decide +kernel
theorem dL_law_0 : decode cL_law 0 = .ok (.new 8, 3) := by decide +kernel
theorem dL_law_3 : decode cL_law 3 = .ok (.dup, 1) := by decide +kernel
theorem dL_law_4 : decode cL_law 4 = .ok (.invokespecial 144, 3) := by decide +kernel
theorem dL_law_7 : decode cL_law 7 = .ok (.astore_n 1, 1) := by decide +kernel
theorem dL_law_8 : decode cL_law 8 = .ok (.new 145, 3) := by decide +kernel
theorem dL_law_11 : decode cL_law 11 = .ok (.dup, 1) := by decide +kernel
theorem dL_law_12 : decode cL_law 12 = .ok (.invokespecial 147, 3) := by decide +kernel
theorem dL_law_15 : decode cL_law 15 = .ok (.astore_n 2, 1) := by decide +kernel
theorem dL_law_16 : decode cL_law 16 = .ok (.iconst 1, 1) := by decide +kernel
theorem dL_law_17 : decode cL_law 17 = .ok (.newarray .long, 2) := by decide +kernel
theorem dL_law_19 : decode cL_law 19 = .ok (.astore_n 3, 1) := by decide +kernel
theorem dL_law_20 : decode cL_law 20 = .ok (.iconst 1, 1) := by decide +kernel
theorem dL_law_21 : decode cL_law 21 = .ok (.newarray .double, 2) := by decide +kernel
theorem dL_law_23 : decode cL_law 23 = .ok (.astore 4, 2) := by decide +kernel
theorem dL_law_25 : decode cL_law 25 = .ok (.iconst 0, 1) := by decide +kernel
theorem dL_law_26 : decode cL_law 26 = .ok (.istore 5, 2) := by decide +kernel
theorem dL_law_28 : decode cL_law 28 = .ok (.iload 5, 2) := by decide +kernel
theorem dL_law_30 : decode cL_law 30 = .ok (.aload_n 0, 1) := by decide +kernel
theorem dL_law_31 : decode cL_law 31 = .ok (.arraylength, 1) := by decide +kernel
theorem dL_law_32 : decode cL_law 32 = .ok (.bipush 6, 2) := by decide +kernel
theorem dL_law_34 : decode cL_law 34 = .ok (.isub, 1) := by decide +kernel
theorem dL_law_35 : decode cL_law 35 = .ok (.if_icmp .gt 2641, 3) := by decide +kernel
theorem dL_law_38 : decode cL_law 38 = .ok (.aload_n 0, 1) := by decide +kernel
theorem dL_law_39 : decode cL_law 39 = .ok (.iload 5, 2) := by decide +kernel
theorem dL_law_41 : decode cL_law 41 = .ok (.iaload, 1) := by decide +kernel
theorem dL_law_42 : decode cL_law 42 = .ok (.bipush 63, 2) := by decide +kernel
theorem dL_law_44 : decode cL_law 44 = .ok (.iand, 1) := by decide +kernel
theorem dL_law_45 : decode cL_law 45 = .ok (.tableswitch 2625 0 50 #[219, 287, 343, 447, 515, 528, 596, 664, 732, 745, 801, 857, 913, 926, 982, 1045, 1108, 1176, 1232, 1245, 1301, 1357, 1413, 1469, 1525, 1581, 1637, 1693, 1706, 1719, 1775, 1831, 1899, 1955, 1968, 1981, 1995, 2009, 2022, 2087, 2153, 2209, 2265, 2321, 2334, 2392, 2436, 2480, 2524, 2568, 2581], 219) := by decide +kernel
theorem dL_law_264 : decode cL_law 264 = .ok (.aload_n 1, 1) := by decide +kernel
theorem dL_law_265 : decode cL_law 265 = .ok (.aload_n 0, 1) := by decide +kernel
theorem dL_law_266 : decode cL_law 266 = .ok (.iload 5, 2) := by decide +kernel
theorem dL_law_268 : decode cL_law 268 = .ok (.iconst 1, 1) := by decide +kernel
theorem dL_law_269 : decode cL_law 269 = .ok (.iadd, 1) := by decide +kernel
theorem dL_law_270 : decode cL_law 270 = .ok (.iaload, 1) := by decide +kernel
theorem dL_law_271 : decode cL_law 271 = .ok (.aload_n 0, 1) := by decide +kernel
theorem dL_law_272 : decode cL_law 272 = .ok (.iload 5, 2) := by decide +kernel
theorem dL_law_274 : decode cL_law 274 = .ok (.iconst 2, 1) := by decide +kernel
theorem dL_law_275 : decode cL_law 275 = .ok (.iadd, 1) := by decide +kernel
theorem dL_law_276 : decode cL_law 276 = .ok (.iaload, 1) := by decide +kernel
theorem dL_law_277 : decode cL_law 277 = .ok (.aload_n 3, 1) := by decide +kernel
theorem dL_law_278 : decode cL_law 278 = .ok (.invokestatic 148, 3) := by decide +kernel
theorem dL_law_281 : decode cL_law 281 = .ok (.istore 6, 2) := by decide +kernel
theorem dL_law_283 : decode cL_law 283 = .ok (.aload_n 2, 1) := by decide +kernel
theorem dL_law_284 : decode cL_law 284 = .ok (.aload_n 0, 1) := by decide +kernel
theorem dL_law_285 : decode cL_law 285 = .ok (.iload 5, 2) := by decide +kernel
theorem dL_law_287 : decode cL_law 287 = .ok (.iconst 1, 1) := by decide +kernel
theorem dL_law_288 : decode cL_law 288 = .ok (.iadd, 1) := by decide +kernel
theorem dL_law_289 : decode cL_law 289 = .ok (.iaload, 1) := by decide +kernel
theorem dL_law_290 : decode cL_law 290 = .ok (.aload_n 0, 1) := by decide +kernel
theorem dL_law_291 : decode cL_law 291 = .ok (.iload 5, 2) := by decide +kernel
theorem dL_law_293 : decode cL_law 293 = .ok (.iconst 2, 1) := by decide +kernel
theorem dL_law_294 : decode cL_law 294 = .ok (.iadd, 1) := by decide +kernel
theorem dL_law_295 : decode cL_law 295 = .ok (.iaload, 1) := by decide +kernel
theorem dL_law_296 : decode cL_law 296 = .ok (.invokevirtual 153, 3) := by decide +kernel
theorem dL_law_299 : decode cL_law 299 = .ok (.istore 7, 2) := by decide +kernel
theorem dL_law_301 : decode cL_law 301 = .ok (.aload_n 2, 1) := by decide +kernel
theorem dL_law_302 : decode cL_law 302 = .ok (.invokevirtual 154, 3) := by decide +kernel
theorem dL_law_305 : decode cL_law 305 = .ok (.iload 6, 2) := by decide +kernel
theorem dL_law_307 : decode cL_law 307 = .ok (.if_icmp .eq 5, 3) := by decide +kernel
theorem dL_law_310 : decode cL_law 310 = .ok (.iconst 0, 1) := by decide +kernel
theorem dL_law_311 : decode cL_law 311 = .ok (.ireturn, 1) := by decide +kernel
theorem dL_law_312 : decode cL_law 312 = .ok (.iload 6, 2) := by decide +kernel
theorem dL_law_314 : decode cL_law 314 = .ok (.ifCond .ne 15, 3) := by decide +kernel
theorem dL_law_317 : decode cL_law 317 = .ok (.aload_n 3, 1) := by decide +kernel
theorem dL_law_318 : decode cL_law 318 = .ok (.iconst 0, 1) := by decide +kernel
theorem dL_law_319 : decode cL_law 319 = .ok (.laload, 1) := by decide +kernel
theorem dL_law_320 : decode cL_law 320 = .ok (.iload 7, 2) := by decide +kernel
theorem dL_law_322 : decode cL_law 322 = .ok (.i2l, 1) := by decide +kernel
theorem dL_law_323 : decode cL_law 323 = .ok (.lcmp, 1) := by decide +kernel
theorem dL_law_324 : decode cL_law 324 = .ok (.ifCond .eq 5, 3) := by decide +kernel
theorem dL_law_327 : decode cL_law 327 = .ok (.iconst 0, 1) := by decide +kernel
theorem dL_law_328 : decode cL_law 328 = .ok (.ireturn, 1) := by decide +kernel
theorem dL_law_329 : decode cL_law 329 = .ok (.goto 2341, 3) := by decide +kernel
theorem dL_law_332 : decode cL_law 332 = .ok (.aload_n 1, 1) := by decide +kernel
theorem dL_law_333 : decode cL_law 333 = .ok (.aload_n 0, 1) := by decide +kernel
theorem dL_law_334 : decode cL_law 334 = .ok (.iload 5, 2) := by decide +kernel
theorem dL_law_336 : decode cL_law 336 = .ok (.iconst 1, 1) := by decide +kernel
theorem dL_law_337 : decode cL_law 337 = .ok (.iadd, 1) := by decide +kernel
theorem dL_law_338 : decode cL_law 338 = .ok (.iaload, 1) := by decide +kernel
theorem dL_law_339 : decode cL_law 339 = .ok (.aload_n 3, 1) := by decide +kernel
theorem dL_law_340 : decode cL_law 340 = .ok (.invokestatic 157, 3) := by decide +kernel
theorem dL_law_343 : decode cL_law 343 = .ok (.istore 6, 2) := by decide +kernel
theorem dL_law_345 : decode cL_law 345 = .ok (.aload_n 2, 1) := by decide +kernel
theorem dL_law_346 : decode cL_law 346 = .ok (.aload_n 0, 1) := by decide +kernel
theorem dL_law_347 : decode cL_law 347 = .ok (.iload 5, 2) := by decide +kernel
theorem dL_law_349 : decode cL_law 349 = .ok (.iconst 1, 1) := by decide +kernel
theorem dL_law_350 : decode cL_law 350 = .ok (.iadd, 1) := by decide +kernel
theorem dL_law_351 : decode cL_law 351 = .ok (.iaload, 1) := by decide +kernel
theorem dL_law_352 : decode cL_law 352 = .ok (.invokevirtual 160, 3) := by decide +kernel
theorem dL_law_355 : decode cL_law 355 = .ok (.istore 7, 2) := by decide +kernel
theorem dL_law_357 : decode cL_law 357 = .ok (.aload_n 2, 1) := by decide +kernel
theorem dL_law_358 : decode cL_law 358 = .ok (.invokevirtual 154, 3) := by decide +kernel
theorem dL_law_361 : decode cL_law 361 = .ok (.iload 6, 2) := by decide +kernel
theorem dL_law_363 : decode cL_law 363 = .ok (.if_icmp .eq 5, 3) := by decide +kernel
theorem dL_law_366 : decode cL_law 366 = .ok (.iconst 0, 1) := by decide +kernel
theorem dL_law_367 : decode cL_law 367 = .ok (.ireturn, 1) := by decide +kernel
theorem dL_law_368 : decode cL_law 368 = .ok (.iload 6, 2) := by decide +kernel
theorem dL_law_370 : decode cL_law 370 = .ok (.ifCond .ne 15, 3) := by decide +kernel
theorem dL_law_373 : decode cL_law 373 = .ok (.aload_n 3, 1) := by decide +kernel
theorem dL_law_374 : decode cL_law 374 = .ok (.iconst 0, 1) := by decide +kernel
theorem dL_law_375 : decode cL_law 375 = .ok (.laload, 1) := by decide +kernel
theorem dL_law_376 : decode cL_law 376 = .ok (.iload 7, 2) := by decide +kernel
theorem dL_law_378 : decode cL_law 378 = .ok (.i2l, 1) := by decide +kernel
theorem dL_law_379 : decode cL_law 379 = .ok (.lcmp, 1) := by decide +kernel
theorem dL_law_380 : decode cL_law 380 = .ok (.ifCond .eq 5, 3) := by decide +kernel
theorem dL_law_383 : decode cL_law 383 = .ok (.iconst 0, 1) := by decide +kernel
theorem dL_law_384 : decode cL_law 384 = .ok (.ireturn, 1) := by decide +kernel
theorem dL_law_385 : decode cL_law 385 = .ok (.goto 2285, 3) := by decide +kernel
theorem dL_law_388 : decode cL_law 388 = .ok (.aload_n 1, 1) := by decide +kernel
theorem dL_law_389 : decode cL_law 389 = .ok (.aload_n 0, 1) := by decide +kernel
theorem dL_law_390 : decode cL_law 390 = .ok (.iload 5, 2) := by decide +kernel
theorem dL_law_392 : decode cL_law 392 = .ok (.iconst 1, 1) := by decide +kernel
theorem dL_law_393 : decode cL_law 393 = .ok (.iadd, 1) := by decide +kernel
theorem dL_law_394 : decode cL_law 394 = .ok (.iaload, 1) := by decide +kernel
theorem dL_law_395 : decode cL_law 395 = .ok (.aload_n 0, 1) := by decide +kernel
theorem dL_law_396 : decode cL_law 396 = .ok (.iload 5, 2) := by decide +kernel
theorem dL_law_398 : decode cL_law 398 = .ok (.iconst 2, 1) := by decide +kernel
theorem dL_law_399 : decode cL_law 399 = .ok (.iadd, 1) := by decide +kernel
theorem dL_law_400 : decode cL_law 400 = .ok (.iaload, 1) := by decide +kernel
theorem dL_law_401 : decode cL_law 401 = .ok (.aload_n 0, 1) := by decide +kernel
theorem dL_law_402 : decode cL_law 402 = .ok (.iload 5, 2) := by decide +kernel
theorem dL_law_404 : decode cL_law 404 = .ok (.iconst 3, 1) := by decide +kernel
theorem dL_law_405 : decode cL_law 405 = .ok (.iadd, 1) := by decide +kernel
theorem dL_law_406 : decode cL_law 406 = .ok (.iaload, 1) := by decide +kernel
theorem dL_law_407 : decode cL_law 407 = .ok (.aload_n 0, 1) := by decide +kernel
theorem dL_law_408 : decode cL_law 408 = .ok (.iload 5, 2) := by decide +kernel
theorem dL_law_410 : decode cL_law 410 = .ok (.iconst 4, 1) := by decide +kernel
theorem dL_law_411 : decode cL_law 411 = .ok (.iadd, 1) := by decide +kernel
theorem dL_law_412 : decode cL_law 412 = .ok (.iaload, 1) := by decide +kernel
theorem dL_law_413 : decode cL_law 413 = .ok (.aload_n 0, 1) := by decide +kernel
theorem dL_law_414 : decode cL_law 414 = .ok (.iload 5, 2) := by decide +kernel
theorem dL_law_416 : decode cL_law 416 = .ok (.iconst 5, 1) := by decide +kernel
theorem dL_law_417 : decode cL_law 417 = .ok (.iadd, 1) := by decide +kernel
theorem dL_law_418 : decode cL_law 418 = .ok (.iaload, 1) := by decide +kernel
theorem dL_law_419 : decode cL_law 419 = .ok (.aload_n 3, 1) := by decide +kernel
theorem dL_law_420 : decode cL_law 420 = .ok (.invokestatic 161, 3) := by decide +kernel
theorem dL_law_423 : decode cL_law 423 = .ok (.istore 6, 2) := by decide +kernel
theorem dL_law_425 : decode cL_law 425 = .ok (.aload_n 2, 1) := by decide +kernel
theorem dL_law_426 : decode cL_law 426 = .ok (.aload_n 0, 1) := by decide +kernel
theorem dL_law_427 : decode cL_law 427 = .ok (.iload 5, 2) := by decide +kernel
theorem dL_law_429 : decode cL_law 429 = .ok (.iconst 1, 1) := by decide +kernel
theorem dL_law_430 : decode cL_law 430 = .ok (.iadd, 1) := by decide +kernel
theorem dL_law_431 : decode cL_law 431 = .ok (.iaload, 1) := by decide +kernel
theorem dL_law_432 : decode cL_law 432 = .ok (.aload_n 0, 1) := by decide +kernel
theorem dL_law_433 : decode cL_law 433 = .ok (.iload 5, 2) := by decide +kernel
theorem dL_law_435 : decode cL_law 435 = .ok (.iconst 2, 1) := by decide +kernel
theorem dL_law_436 : decode cL_law 436 = .ok (.iadd, 1) := by decide +kernel
theorem dL_law_437 : decode cL_law 437 = .ok (.iaload, 1) := by decide +kernel
theorem dL_law_438 : decode cL_law 438 = .ok (.aload_n 0, 1) := by decide +kernel
theorem dL_law_439 : decode cL_law 439 = .ok (.iload 5, 2) := by decide +kernel
theorem dL_law_441 : decode cL_law 441 = .ok (.iconst 3, 1) := by decide +kernel
theorem dL_law_442 : decode cL_law 442 = .ok (.iadd, 1) := by decide +kernel
theorem dL_law_443 : decode cL_law 443 = .ok (.iaload, 1) := by decide +kernel
theorem dL_law_444 : decode cL_law 444 = .ok (.aload_n 0, 1) := by decide +kernel
theorem dL_law_445 : decode cL_law 445 = .ok (.iload 5, 2) := by decide +kernel
theorem dL_law_447 : decode cL_law 447 = .ok (.iconst 4, 1) := by decide +kernel
theorem dL_law_448 : decode cL_law 448 = .ok (.iadd, 1) := by decide +kernel
theorem dL_law_449 : decode cL_law 449 = .ok (.iaload, 1) := by decide +kernel
theorem dL_law_450 : decode cL_law 450 = .ok (.aload_n 0, 1) := by decide +kernel
theorem dL_law_451 : decode cL_law 451 = .ok (.iload 5, 2) := by decide +kernel
theorem dL_law_453 : decode cL_law 453 = .ok (.iconst 5, 1) := by decide +kernel
theorem dL_law_454 : decode cL_law 454 = .ok (.iadd, 1) := by decide +kernel
theorem dL_law_455 : decode cL_law 455 = .ok (.iaload, 1) := by decide +kernel
theorem dL_law_456 : decode cL_law 456 = .ok (.invokevirtual 164, 3) := by decide +kernel
theorem dL_law_459 : decode cL_law 459 = .ok (.istore 7, 2) := by decide +kernel
theorem dL_law_461 : decode cL_law 461 = .ok (.aload_n 2, 1) := by decide +kernel
theorem dL_law_462 : decode cL_law 462 = .ok (.invokevirtual 154, 3) := by decide +kernel
theorem dL_law_465 : decode cL_law 465 = .ok (.iload 6, 2) := by decide +kernel
theorem dL_law_467 : decode cL_law 467 = .ok (.if_icmp .eq 5, 3) := by decide +kernel
theorem dL_law_470 : decode cL_law 470 = .ok (.iconst 0, 1) := by decide +kernel
theorem dL_law_471 : decode cL_law 471 = .ok (.ireturn, 1) := by decide +kernel
theorem dL_law_472 : decode cL_law 472 = .ok (.iload 6, 2) := by decide +kernel
theorem dL_law_474 : decode cL_law 474 = .ok (.ifCond .ne 15, 3) := by decide +kernel
theorem dL_law_477 : decode cL_law 477 = .ok (.aload_n 3, 1) := by decide +kernel
theorem dL_law_478 : decode cL_law 478 = .ok (.iconst 0, 1) := by decide +kernel
theorem dL_law_479 : decode cL_law 479 = .ok (.laload, 1) := by decide +kernel
theorem dL_law_480 : decode cL_law 480 = .ok (.iload 7, 2) := by decide +kernel
theorem dL_law_482 : decode cL_law 482 = .ok (.i2l, 1) := by decide +kernel
theorem dL_law_483 : decode cL_law 483 = .ok (.lcmp, 1) := by decide +kernel
theorem dL_law_484 : decode cL_law 484 = .ok (.ifCond .eq 5, 3) := by decide +kernel
theorem dL_law_487 : decode cL_law 487 = .ok (.iconst 0, 1) := by decide +kernel
theorem dL_law_488 : decode cL_law 488 = .ok (.ireturn, 1) := by decide +kernel
theorem dL_law_489 : decode cL_law 489 = .ok (.goto 2181, 3) := by decide +kernel
theorem dL_law_492 : decode cL_law 492 = .ok (.aload_n 1, 1) := by decide +kernel
theorem dL_law_493 : decode cL_law 493 = .ok (.aload_n 0, 1) := by decide +kernel
theorem dL_law_494 : decode cL_law 494 = .ok (.iload 5, 2) := by decide +kernel
theorem dL_law_496 : decode cL_law 496 = .ok (.iconst 1, 1) := by decide +kernel
theorem dL_law_497 : decode cL_law 497 = .ok (.iadd, 1) := by decide +kernel
theorem dL_law_498 : decode cL_law 498 = .ok (.iaload, 1) := by decide +kernel
theorem dL_law_499 : decode cL_law 499 = .ok (.aload_n 0, 1) := by decide +kernel
theorem dL_law_500 : decode cL_law 500 = .ok (.iload 5, 2) := by decide +kernel
theorem dL_law_502 : decode cL_law 502 = .ok (.iconst 2, 1) := by decide +kernel
theorem dL_law_503 : decode cL_law 503 = .ok (.iadd, 1) := by decide +kernel
theorem dL_law_504 : decode cL_law 504 = .ok (.iaload, 1) := by decide +kernel
theorem dL_law_505 : decode cL_law 505 = .ok (.aload_n 3, 1) := by decide +kernel
theorem dL_law_506 : decode cL_law 506 = .ok (.invokestatic 165, 3) := by decide +kernel
theorem dL_law_509 : decode cL_law 509 = .ok (.istore 6, 2) := by decide +kernel
theorem dL_law_511 : decode cL_law 511 = .ok (.aload_n 2, 1) := by decide +kernel
theorem dL_law_512 : decode cL_law 512 = .ok (.aload_n 0, 1) := by decide +kernel
theorem dL_law_513 : decode cL_law 513 = .ok (.iload 5, 2) := by decide +kernel
theorem dL_law_515 : decode cL_law 515 = .ok (.iconst 1, 1) := by decide +kernel
theorem dL_law_516 : decode cL_law 516 = .ok (.iadd, 1) := by decide +kernel
theorem dL_law_517 : decode cL_law 517 = .ok (.iaload, 1) := by decide +kernel
theorem dL_law_518 : decode cL_law 518 = .ok (.aload_n 0, 1) := by decide +kernel
theorem dL_law_519 : decode cL_law 519 = .ok (.iload 5, 2) := by decide +kernel
theorem dL_law_521 : decode cL_law 521 = .ok (.iconst 2, 1) := by decide +kernel
theorem dL_law_522 : decode cL_law 522 = .ok (.iadd, 1) := by decide +kernel
theorem dL_law_523 : decode cL_law 523 = .ok (.iaload, 1) := by decide +kernel
theorem dL_law_524 : decode cL_law 524 = .ok (.invokevirtual 167, 3) := by decide +kernel
theorem dL_law_527 : decode cL_law 527 = .ok (.istore 7, 2) := by decide +kernel
theorem dL_law_529 : decode cL_law 529 = .ok (.aload_n 2, 1) := by decide +kernel
theorem dL_law_530 : decode cL_law 530 = .ok (.invokevirtual 154, 3) := by decide +kernel
theorem dL_law_533 : decode cL_law 533 = .ok (.iload 6, 2) := by decide +kernel
theorem dL_law_535 : decode cL_law 535 = .ok (.if_icmp .eq 5, 3) := by decide +kernel
theorem dL_law_538 : decode cL_law 538 = .ok (.iconst 0, 1) := by decide +kernel
theorem dL_law_539 : decode cL_law 539 = .ok (.ireturn, 1) := by decide +kernel
theorem dL_law_540 : decode cL_law 540 = .ok (.iload 6, 2) := by decide +kernel
theorem dL_law_542 : decode cL_law 542 = .ok (.ifCond .ne 15, 3) := by decide +kernel
theorem dL_law_545 : decode cL_law 545 = .ok (.aload_n 3, 1) := by decide +kernel
theorem dL_law_546 : decode cL_law 546 = .ok (.iconst 0, 1) := by decide +kernel
theorem dL_law_547 : decode cL_law 547 = .ok (.laload, 1) := by decide +kernel
theorem dL_law_548 : decode cL_law 548 = .ok (.iload 7, 2) := by decide +kernel
theorem dL_law_550 : decode cL_law 550 = .ok (.i2l, 1) := by decide +kernel
theorem dL_law_551 : decode cL_law 551 = .ok (.lcmp, 1) := by decide +kernel
theorem dL_law_552 : decode cL_law 552 = .ok (.ifCond .eq 5, 3) := by decide +kernel
theorem dL_law_555 : decode cL_law 555 = .ok (.iconst 0, 1) := by decide +kernel
theorem dL_law_556 : decode cL_law 556 = .ok (.ireturn, 1) := by decide +kernel
theorem dL_law_557 : decode cL_law 557 = .ok (.goto 2113, 3) := by decide +kernel
theorem dL_law_560 : decode cL_law 560 = .ok (.aload_n 1, 1) := by decide +kernel
theorem dL_law_561 : decode cL_law 561 = .ok (.invokevirtual 168, 3) := by decide +kernel
theorem dL_law_564 : decode cL_law 564 = .ok (.aload_n 2, 1) := by decide +kernel
theorem dL_law_565 : decode cL_law 565 = .ok (.invokevirtual 171, 3) := by decide +kernel
theorem dL_law_568 : decode cL_law 568 = .ok (.if_icmp .eq 2102, 3) := by decide +kernel
theorem dL_law_571 : decode cL_law 571 = .ok (.iconst 0, 1) := by decide +kernel
theorem dL_law_572 : decode cL_law 572 = .ok (.ireturn, 1) := by decide +kernel
theorem dL_law_573 : decode cL_law 573 = .ok (.aload_n 1, 1) := by decide +kernel
theorem dL_law_574 : decode cL_law 574 = .ok (.aload_n 0, 1) := by decide +kernel
theorem dL_law_575 : decode cL_law 575 = .ok (.iload 5, 2) := by decide +kernel
theorem dL_law_577 : decode cL_law 577 = .ok (.iconst 1, 1) := by decide +kernel
theorem dL_law_578 : decode cL_law 578 = .ok (.iadd, 1) := by decide +kernel
theorem dL_law_579 : decode cL_law 579 = .ok (.iaload, 1) := by decide +kernel
theorem dL_law_580 : decode cL_law 580 = .ok (.aload_n 0, 1) := by decide +kernel
theorem dL_law_581 : decode cL_law 581 = .ok (.iload 5, 2) := by decide +kernel
theorem dL_law_583 : decode cL_law 583 = .ok (.iconst 2, 1) := by decide +kernel
theorem dL_law_584 : decode cL_law 584 = .ok (.iadd, 1) := by decide +kernel
theorem dL_law_585 : decode cL_law 585 = .ok (.iaload, 1) := by decide +kernel
theorem dL_law_586 : decode cL_law 586 = .ok (.aload_n 3, 1) := by decide +kernel
theorem dL_law_587 : decode cL_law 587 = .ok (.invokestatic 172, 3) := by decide +kernel
theorem dL_law_590 : decode cL_law 590 = .ok (.istore 6, 2) := by decide +kernel
theorem dL_law_592 : decode cL_law 592 = .ok (.aload_n 2, 1) := by decide +kernel
theorem dL_law_593 : decode cL_law 593 = .ok (.aload_n 0, 1) := by decide +kernel
theorem dL_law_594 : decode cL_law 594 = .ok (.iload 5, 2) := by decide +kernel
theorem dL_law_596 : decode cL_law 596 = .ok (.iconst 1, 1) := by decide +kernel
theorem dL_law_597 : decode cL_law 597 = .ok (.iadd, 1) := by decide +kernel
theorem dL_law_598 : decode cL_law 598 = .ok (.iaload, 1) := by decide +kernel
theorem dL_law_599 : decode cL_law 599 = .ok (.aload_n 0, 1) := by decide +kernel
theorem dL_law_600 : decode cL_law 600 = .ok (.iload 5, 2) := by decide +kernel
theorem dL_law_602 : decode cL_law 602 = .ok (.iconst 2, 1) := by decide +kernel
theorem dL_law_603 : decode cL_law 603 = .ok (.iadd, 1) := by decide +kernel
theorem dL_law_604 : decode cL_law 604 = .ok (.iaload, 1) := by decide +kernel
theorem dL_law_605 : decode cL_law 605 = .ok (.invokevirtual 174, 3) := by decide +kernel
theorem dL_law_608 : decode cL_law 608 = .ok (.istore 7, 2) := by decide +kernel
theorem dL_law_610 : decode cL_law 610 = .ok (.aload_n 2, 1) := by decide +kernel
theorem dL_law_611 : decode cL_law 611 = .ok (.invokevirtual 154, 3) := by decide +kernel
theorem dL_law_614 : decode cL_law 614 = .ok (.iload 6, 2) := by decide +kernel
theorem dL_law_616 : decode cL_law 616 = .ok (.if_icmp .eq 5, 3) := by decide +kernel
theorem dL_law_619 : decode cL_law 619 = .ok (.iconst 0, 1) := by decide +kernel
theorem dL_law_620 : decode cL_law 620 = .ok (.ireturn, 1) := by decide +kernel
theorem dL_law_621 : decode cL_law 621 = .ok (.iload 6, 2) := by decide +kernel
theorem dL_law_623 : decode cL_law 623 = .ok (.ifCond .ne 15, 3) := by decide +kernel
theorem dL_law_626 : decode cL_law 626 = .ok (.aload_n 3, 1) := by decide +kernel
theorem dL_law_627 : decode cL_law 627 = .ok (.iconst 0, 1) := by decide +kernel
theorem dL_law_628 : decode cL_law 628 = .ok (.laload, 1) := by decide +kernel
theorem dL_law_629 : decode cL_law 629 = .ok (.iload 7, 2) := by decide +kernel
theorem dL_law_631 : decode cL_law 631 = .ok (.i2l, 1) := by decide +kernel
theorem dL_law_632 : decode cL_law 632 = .ok (.lcmp, 1) := by decide +kernel
theorem dL_law_633 : decode cL_law 633 = .ok (.ifCond .eq 5, 3) := by decide +kernel
theorem dL_law_636 : decode cL_law 636 = .ok (.iconst 0, 1) := by decide +kernel
theorem dL_law_637 : decode cL_law 637 = .ok (.ireturn, 1) := by decide +kernel
theorem dL_law_638 : decode cL_law 638 = .ok (.goto 2032, 3) := by decide +kernel
theorem dL_law_641 : decode cL_law 641 = .ok (.aload_n 1, 1) := by decide +kernel
theorem dL_law_642 : decode cL_law 642 = .ok (.aload_n 0, 1) := by decide +kernel
theorem dL_law_643 : decode cL_law 643 = .ok (.iload 5, 2) := by decide +kernel
theorem dL_law_645 : decode cL_law 645 = .ok (.iconst 1, 1) := by decide +kernel
theorem dL_law_646 : decode cL_law 646 = .ok (.iadd, 1) := by decide +kernel
theorem dL_law_647 : decode cL_law 647 = .ok (.iaload, 1) := by decide +kernel
theorem dL_law_648 : decode cL_law 648 = .ok (.aload_n 0, 1) := by decide +kernel
theorem dL_law_649 : decode cL_law 649 = .ok (.iload 5, 2) := by decide +kernel
theorem dL_law_651 : decode cL_law 651 = .ok (.iconst 2, 1) := by decide +kernel
theorem dL_law_652 : decode cL_law 652 = .ok (.iadd, 1) := by decide +kernel
theorem dL_law_653 : decode cL_law 653 = .ok (.iaload, 1) := by decide +kernel
theorem dL_law_654 : decode cL_law 654 = .ok (.aload_n 3, 1) := by decide +kernel
theorem dL_law_655 : decode cL_law 655 = .ok (.invokestatic 175, 3) := by decide +kernel
theorem dL_law_658 : decode cL_law 658 = .ok (.istore 6, 2) := by decide +kernel
theorem dL_law_660 : decode cL_law 660 = .ok (.aload_n 2, 1) := by decide +kernel
theorem dL_law_661 : decode cL_law 661 = .ok (.aload_n 0, 1) := by decide +kernel
theorem dL_law_662 : decode cL_law 662 = .ok (.iload 5, 2) := by decide +kernel
theorem dL_law_664 : decode cL_law 664 = .ok (.iconst 1, 1) := by decide +kernel
theorem dL_law_665 : decode cL_law 665 = .ok (.iadd, 1) := by decide +kernel
theorem dL_law_666 : decode cL_law 666 = .ok (.iaload, 1) := by decide +kernel
theorem dL_law_667 : decode cL_law 667 = .ok (.aload_n 0, 1) := by decide +kernel
theorem dL_law_668 : decode cL_law 668 = .ok (.iload 5, 2) := by decide +kernel
theorem dL_law_670 : decode cL_law 670 = .ok (.iconst 2, 1) := by decide +kernel
theorem dL_law_671 : decode cL_law 671 = .ok (.iadd, 1) := by decide +kernel
theorem dL_law_672 : decode cL_law 672 = .ok (.iaload, 1) := by decide +kernel
theorem dL_law_673 : decode cL_law 673 = .ok (.invokevirtual 177, 3) := by decide +kernel
theorem dL_law_676 : decode cL_law 676 = .ok (.istore 7, 2) := by decide +kernel
theorem dL_law_678 : decode cL_law 678 = .ok (.aload_n 2, 1) := by decide +kernel
theorem dL_law_679 : decode cL_law 679 = .ok (.invokevirtual 154, 3) := by decide +kernel
theorem dL_law_682 : decode cL_law 682 = .ok (.iload 6, 2) := by decide +kernel
theorem dL_law_684 : decode cL_law 684 = .ok (.if_icmp .eq 5, 3) := by decide +kernel
theorem dL_law_687 : decode cL_law 687 = .ok (.iconst 0, 1) := by decide +kernel
theorem dL_law_688 : decode cL_law 688 = .ok (.ireturn, 1) := by decide +kernel
theorem dL_law_689 : decode cL_law 689 = .ok (.iload 6, 2) := by decide +kernel
theorem dL_law_691 : decode cL_law 691 = .ok (.ifCond .ne 15, 3) := by decide +kernel
theorem dL_law_694 : decode cL_law 694 = .ok (.aload_n 3, 1) := by decide +kernel
theorem dL_law_695 : decode cL_law 695 = .ok (.iconst 0, 1) := by decide +kernel
theorem dL_law_696 : decode cL_law 696 = .ok (.laload, 1) := by decide +kernel
theorem dL_law_697 : decode cL_law 697 = .ok (.iload 7, 2) := by decide +kernel
theorem dL_law_699 : decode cL_law 699 = .ok (.i2l, 1) := by decide +kernel
theorem dL_law_700 : decode cL_law 700 = .ok (.lcmp, 1) := by decide +kernel
theorem dL_law_701 : decode cL_law 701 = .ok (.ifCond .eq 5, 3) := by decide +kernel
theorem dL_law_704 : decode cL_law 704 = .ok (.iconst 0, 1) := by decide +kernel
theorem dL_law_705 : decode cL_law 705 = .ok (.ireturn, 1) := by decide +kernel
theorem dL_law_706 : decode cL_law 706 = .ok (.goto 1964, 3) := by decide +kernel
theorem dL_law_709 : decode cL_law 709 = .ok (.aload_n 1, 1) := by decide +kernel
theorem dL_law_710 : decode cL_law 710 = .ok (.aload_n 0, 1) := by decide +kernel
theorem dL_law_711 : decode cL_law 711 = .ok (.iload 5, 2) := by decide +kernel
theorem dL_law_713 : decode cL_law 713 = .ok (.iconst 1, 1) := by decide +kernel
theorem dL_law_714 : decode cL_law 714 = .ok (.iadd, 1) := by decide +kernel
theorem dL_law_715 : decode cL_law 715 = .ok (.iaload, 1) := by decide +kernel
theorem dL_law_716 : decode cL_law 716 = .ok (.aload_n 0, 1) := by decide +kernel
theorem dL_law_717 : decode cL_law 717 = .ok (.iload 5, 2) := by decide +kernel
theorem dL_law_719 : decode cL_law 719 = .ok (.iconst 2, 1) := by decide +kernel
theorem dL_law_720 : decode cL_law 720 = .ok (.iadd, 1) := by decide +kernel
theorem dL_law_721 : decode cL_law 721 = .ok (.iaload, 1) := by decide +kernel
theorem dL_law_722 : decode cL_law 722 = .ok (.aload_n 3, 1) := by decide +kernel
theorem dL_law_723 : decode cL_law 723 = .ok (.invokestatic 178, 3) := by decide +kernel
theorem dL_law_726 : decode cL_law 726 = .ok (.istore 6, 2) := by decide +kernel
theorem dL_law_728 : decode cL_law 728 = .ok (.aload_n 2, 1) := by decide +kernel
theorem dL_law_729 : decode cL_law 729 = .ok (.aload_n 0, 1) := by decide +kernel
theorem dL_law_730 : decode cL_law 730 = .ok (.iload 5, 2) := by decide +kernel
theorem dL_law_732 : decode cL_law 732 = .ok (.iconst 1, 1) := by decide +kernel
theorem dL_law_733 : decode cL_law 733 = .ok (.iadd, 1) := by decide +kernel
theorem dL_law_734 : decode cL_law 734 = .ok (.iaload, 1) := by decide +kernel
theorem dL_law_735 : decode cL_law 735 = .ok (.aload_n 0, 1) := by decide +kernel
theorem dL_law_736 : decode cL_law 736 = .ok (.iload 5, 2) := by decide +kernel
theorem dL_law_738 : decode cL_law 738 = .ok (.iconst 2, 1) := by decide +kernel
theorem dL_law_739 : decode cL_law 739 = .ok (.iadd, 1) := by decide +kernel
theorem dL_law_740 : decode cL_law 740 = .ok (.iaload, 1) := by decide +kernel
theorem dL_law_741 : decode cL_law 741 = .ok (.invokevirtual 180, 3) := by decide +kernel
theorem dL_law_744 : decode cL_law 744 = .ok (.istore 7, 2) := by decide +kernel
theorem dL_law_746 : decode cL_law 746 = .ok (.aload_n 2, 1) := by decide +kernel
theorem dL_law_747 : decode cL_law 747 = .ok (.invokevirtual 154, 3) := by decide +kernel
theorem dL_law_750 : decode cL_law 750 = .ok (.iload 6, 2) := by decide +kernel
theorem dL_law_752 : decode cL_law 752 = .ok (.if_icmp .eq 5, 3) := by decide +kernel
theorem dL_law_755 : decode cL_law 755 = .ok (.iconst 0, 1) := by decide +kernel
theorem dL_law_756 : decode cL_law 756 = .ok (.ireturn, 1) := by decide +kernel
theorem dL_law_757 : decode cL_law 757 = .ok (.iload 6, 2) := by decide +kernel
theorem dL_law_759 : decode cL_law 759 = .ok (.ifCond .ne 15, 3) := by decide +kernel
theorem dL_law_762 : decode cL_law 762 = .ok (.aload_n 3, 1) := by decide +kernel
theorem dL_law_763 : decode cL_law 763 = .ok (.iconst 0, 1) := by decide +kernel
theorem dL_law_764 : decode cL_law 764 = .ok (.laload, 1) := by decide +kernel
theorem dL_law_765 : decode cL_law 765 = .ok (.iload 7, 2) := by decide +kernel
theorem dL_law_767 : decode cL_law 767 = .ok (.i2l, 1) := by decide +kernel
theorem dL_law_768 : decode cL_law 768 = .ok (.lcmp, 1) := by decide +kernel
theorem dL_law_769 : decode cL_law 769 = .ok (.ifCond .eq 5, 3) := by decide +kernel
theorem dL_law_772 : decode cL_law 772 = .ok (.iconst 0, 1) := by decide +kernel
theorem dL_law_773 : decode cL_law 773 = .ok (.ireturn, 1) := by decide +kernel
theorem dL_law_774 : decode cL_law 774 = .ok (.goto 1896, 3) := by decide +kernel
theorem dL_law_777 : decode cL_law 777 = .ok (.aload_n 1, 1) := by decide +kernel
theorem dL_law_778 : decode cL_law 778 = .ok (.invokevirtual 181, 3) := by decide +kernel
theorem dL_law_781 : decode cL_law 781 = .ok (.aload_n 2, 1) := by decide +kernel
theorem dL_law_782 : decode cL_law 782 = .ok (.invokevirtual 184, 3) := by decide +kernel
theorem dL_law_785 : decode cL_law 785 = .ok (.if_icmp .eq 1885, 3) := by decide +kernel
theorem dL_law_788 : decode cL_law 788 = .ok (.iconst 0, 1) := by decide +kernel
theorem dL_law_789 : decode cL_law 789 = .ok (.ireturn, 1) := by decide +kernel
theorem dL_law_790 : decode cL_law 790 = .ok (.aload_n 1, 1) := by decide +kernel
theorem dL_law_791 : decode cL_law 791 = .ok (.aload_n 0, 1) := by decide +kernel
theorem dL_law_792 : decode cL_law 792 = .ok (.iload 5, 2) := by decide +kernel
theorem dL_law_794 : decode cL_law 794 = .ok (.iconst 1, 1) := by decide +kernel
theorem dL_law_795 : decode cL_law 795 = .ok (.iadd, 1) := by decide +kernel
theorem dL_law_796 : decode cL_law 796 = .ok (.iaload, 1) := by decide +kernel
theorem dL_law_797 : decode cL_law 797 = .ok (.aload_n 3, 1) := by decide +kernel
theorem dL_law_798 : decode cL_law 798 = .ok (.invokestatic 185, 3) := by decide +kernel
theorem dL_law_801 : decode cL_law 801 = .ok (.istore 6, 2) := by decide +kernel
theorem dL_law_803 : decode cL_law 803 = .ok (.aload_n 2, 1) := by decide +kernel
theorem dL_law_804 : decode cL_law 804 = .ok (.aload_n 0, 1) := by decide +kernel
theorem dL_law_805 : decode cL_law 805 = .ok (.iload 5, 2) := by decide +kernel
theorem dL_law_807 : decode cL_law 807 = .ok (.iconst 1, 1) := by decide +kernel
theorem dL_law_808 : decode cL_law 808 = .ok (.iadd, 1) := by decide +kernel
theorem dL_law_809 : decode cL_law 809 = .ok (.iaload, 1) := by decide +kernel
theorem dL_law_810 : decode cL_law 810 = .ok (.invokevirtual 187, 3) := by decide +kernel
theorem dL_law_813 : decode cL_law 813 = .ok (.istore 7, 2) := by decide +kernel
theorem dL_law_815 : decode cL_law 815 = .ok (.aload_n 2, 1) := by decide +kernel
theorem dL_law_816 : decode cL_law 816 = .ok (.invokevirtual 154, 3) := by decide +kernel
theorem dL_law_819 : decode cL_law 819 = .ok (.iload 6, 2) := by decide +kernel
theorem dL_law_821 : decode cL_law 821 = .ok (.if_icmp .eq 5, 3) := by decide +kernel
theorem dL_law_824 : decode cL_law 824 = .ok (.iconst 0, 1) := by decide +kernel
theorem dL_law_825 : decode cL_law 825 = .ok (.ireturn, 1) := by decide +kernel
theorem dL_law_826 : decode cL_law 826 = .ok (.iload 6, 2) := by decide +kernel
theorem dL_law_828 : decode cL_law 828 = .ok (.ifCond .ne 15, 3) := by decide +kernel
theorem dL_law_831 : decode cL_law 831 = .ok (.aload_n 3, 1) := by decide +kernel
theorem dL_law_832 : decode cL_law 832 = .ok (.iconst 0, 1) := by decide +kernel
theorem dL_law_833 : decode cL_law 833 = .ok (.laload, 1) := by decide +kernel
theorem dL_law_834 : decode cL_law 834 = .ok (.iload 7, 2) := by decide +kernel
theorem dL_law_836 : decode cL_law 836 = .ok (.i2l, 1) := by decide +kernel
theorem dL_law_837 : decode cL_law 837 = .ok (.lcmp, 1) := by decide +kernel
theorem dL_law_838 : decode cL_law 838 = .ok (.ifCond .eq 5, 3) := by decide +kernel
theorem dL_law_841 : decode cL_law 841 = .ok (.iconst 0, 1) := by decide +kernel
theorem dL_law_842 : decode cL_law 842 = .ok (.ireturn, 1) := by decide +kernel
theorem dL_law_843 : decode cL_law 843 = .ok (.goto 1827, 3) := by decide +kernel
theorem dL_law_846 : decode cL_law 846 = .ok (.aload_n 1, 1) := by decide +kernel
theorem dL_law_847 : decode cL_law 847 = .ok (.aload_n 0, 1) := by decide +kernel
theorem dL_law_848 : decode cL_law 848 = .ok (.iload 5, 2) := by decide +kernel
theorem dL_law_850 : decode cL_law 850 = .ok (.iconst 1, 1) := by decide +kernel
theorem dL_law_851 : decode cL_law 851 = .ok (.iadd, 1) := by decide +kernel
theorem dL_law_852 : decode cL_law 852 = .ok (.iaload, 1) := by decide +kernel
theorem dL_law_853 : decode cL_law 853 = .ok (.aload_n 3, 1) := by decide +kernel
theorem dL_law_854 : decode cL_law 854 = .ok (.invokestatic 188, 3) := by decide +kernel
theorem dL_law_857 : decode cL_law 857 = .ok (.istore 6, 2) := by decide +kernel
theorem dL_law_859 : decode cL_law 859 = .ok (.aload_n 2, 1) := by decide +kernel
theorem dL_law_860 : decode cL_law 860 = .ok (.aload_n 0, 1) := by decide +kernel
theorem dL_law_861 : decode cL_law 861 = .ok (.iload 5, 2) := by decide +kernel
theorem dL_law_863 : decode cL_law 863 = .ok (.iconst 1, 1) := by decide +kernel
theorem dL_law_864 : decode cL_law 864 = .ok (.iadd, 1) := by decide +kernel
theorem dL_law_865 : decode cL_law 865 = .ok (.iaload, 1) := by decide +kernel
theorem dL_law_866 : decode cL_law 866 = .ok (.invokevirtual 190, 3) := by decide +kernel
theorem dL_law_869 : decode cL_law 869 = .ok (.istore 7, 2) := by decide +kernel
theorem dL_law_871 : decode cL_law 871 = .ok (.aload_n 2, 1) := by decide +kernel
theorem dL_law_872 : decode cL_law 872 = .ok (.invokevirtual 154, 3) := by decide +kernel
theorem dL_law_875 : decode cL_law 875 = .ok (.iload 6, 2) := by decide +kernel
theorem dL_law_877 : decode cL_law 877 = .ok (.if_icmp .eq 5, 3) := by decide +kernel
theorem dL_law_880 : decode cL_law 880 = .ok (.iconst 0, 1) := by decide +kernel
theorem dL_law_881 : decode cL_law 881 = .ok (.ireturn, 1) := by decide +kernel
theorem dL_law_882 : decode cL_law 882 = .ok (.iload 6, 2) := by decide +kernel
theorem dL_law_884 : decode cL_law 884 = .ok (.ifCond .ne 15, 3) := by decide +kernel
theorem dL_law_887 : decode cL_law 887 = .ok (.aload_n 3, 1) := by decide +kernel
theorem dL_law_888 : decode cL_law 888 = .ok (.iconst 0, 1) := by decide +kernel
theorem dL_law_889 : decode cL_law 889 = .ok (.laload, 1) := by decide +kernel
theorem dL_law_890 : decode cL_law 890 = .ok (.iload 7, 2) := by decide +kernel
theorem dL_law_892 : decode cL_law 892 = .ok (.i2l, 1) := by decide +kernel
theorem dL_law_893 : decode cL_law 893 = .ok (.lcmp, 1) := by decide +kernel
theorem dL_law_894 : decode cL_law 894 = .ok (.ifCond .eq 5, 3) := by decide +kernel
theorem dL_law_897 : decode cL_law 897 = .ok (.iconst 0, 1) := by decide +kernel
theorem dL_law_898 : decode cL_law 898 = .ok (.ireturn, 1) := by decide +kernel
theorem dL_law_899 : decode cL_law 899 = .ok (.goto 1771, 3) := by decide +kernel
theorem dL_law_902 : decode cL_law 902 = .ok (.aload_n 1, 1) := by decide +kernel
theorem dL_law_903 : decode cL_law 903 = .ok (.aload_n 0, 1) := by decide +kernel
theorem dL_law_904 : decode cL_law 904 = .ok (.iload 5, 2) := by decide +kernel
theorem dL_law_906 : decode cL_law 906 = .ok (.iconst 1, 1) := by decide +kernel
theorem dL_law_907 : decode cL_law 907 = .ok (.iadd, 1) := by decide +kernel
theorem dL_law_908 : decode cL_law 908 = .ok (.iaload, 1) := by decide +kernel
theorem dL_law_909 : decode cL_law 909 = .ok (.aload_n 3, 1) := by decide +kernel
theorem dL_law_910 : decode cL_law 910 = .ok (.invokestatic 191, 3) := by decide +kernel
theorem dL_law_913 : decode cL_law 913 = .ok (.istore 6, 2) := by decide +kernel
theorem dL_law_915 : decode cL_law 915 = .ok (.aload_n 2, 1) := by decide +kernel
theorem dL_law_916 : decode cL_law 916 = .ok (.aload_n 0, 1) := by decide +kernel
theorem dL_law_917 : decode cL_law 917 = .ok (.iload 5, 2) := by decide +kernel
theorem dL_law_919 : decode cL_law 919 = .ok (.iconst 1, 1) := by decide +kernel
theorem dL_law_920 : decode cL_law 920 = .ok (.iadd, 1) := by decide +kernel
theorem dL_law_921 : decode cL_law 921 = .ok (.iaload, 1) := by decide +kernel
theorem dL_law_922 : decode cL_law 922 = .ok (.invokevirtual 193, 3) := by decide +kernel
theorem dL_law_925 : decode cL_law 925 = .ok (.istore 7, 2) := by decide +kernel
theorem dL_law_927 : decode cL_law 927 = .ok (.aload_n 2, 1) := by decide +kernel
theorem dL_law_928 : decode cL_law 928 = .ok (.invokevirtual 154, 3) := by decide +kernel
theorem dL_law_931 : decode cL_law 931 = .ok (.iload 6, 2) := by decide +kernel
theorem dL_law_933 : decode cL_law 933 = .ok (.if_icmp .eq 5, 3) := by decide +kernel
theorem dL_law_936 : decode cL_law 936 = .ok (.iconst 0, 1) := by decide +kernel
theorem dL_law_937 : decode cL_law 937 = .ok (.ireturn, 1) := by decide +kernel
theorem dL_law_938 : decode cL_law 938 = .ok (.iload 6, 2) := by decide +kernel
theorem dL_law_940 : decode cL_law 940 = .ok (.ifCond .ne 15, 3) := by decide +kernel
theorem dL_law_943 : decode cL_law 943 = .ok (.aload_n 3, 1) := by decide +kernel
theorem dL_law_944 : decode cL_law 944 = .ok (.iconst 0, 1) := by decide +kernel
theorem dL_law_945 : decode cL_law 945 = .ok (.laload, 1) := by decide +kernel
theorem dL_law_946 : decode cL_law 946 = .ok (.iload 7, 2) := by decide +kernel
theorem dL_law_948 : decode cL_law 948 = .ok (.i2l, 1) := by decide +kernel
theorem dL_law_949 : decode cL_law 949 = .ok (.lcmp, 1) := by decide +kernel
theorem dL_law_950 : decode cL_law 950 = .ok (.ifCond .eq 5, 3) := by decide +kernel
theorem dL_law_953 : decode cL_law 953 = .ok (.iconst 0, 1) := by decide +kernel
theorem dL_law_954 : decode cL_law 954 = .ok (.ireturn, 1) := by decide +kernel
theorem dL_law_955 : decode cL_law 955 = .ok (.goto 1715, 3) := by decide +kernel
theorem dL_law_958 : decode cL_law 958 = .ok (.aload_n 1, 1) := by decide +kernel
theorem dL_law_959 : decode cL_law 959 = .ok (.invokevirtual 194, 3) := by decide +kernel
theorem dL_law_962 : decode cL_law 962 = .ok (.aload_n 2, 1) := by decide +kernel
theorem dL_law_963 : decode cL_law 963 = .ok (.invokevirtual 197, 3) := by decide +kernel
theorem dL_law_966 : decode cL_law 966 = .ok (.if_icmp .eq 1704, 3) := by decide +kernel
theorem dL_law_969 : decode cL_law 969 = .ok (.iconst 0, 1) := by decide +kernel
theorem dL_law_970 : decode cL_law 970 = .ok (.ireturn, 1) := by decide +kernel
theorem dL_law_971 : decode cL_law 971 = .ok (.aload_n 1, 1) := by decide +kernel
theorem dL_law_972 : decode cL_law 972 = .ok (.aload_n 0, 1) := by decide +kernel
theorem dL_law_973 : decode cL_law 973 = .ok (.iload 5, 2) := by decide +kernel
theorem dL_law_975 : decode cL_law 975 = .ok (.iconst 1, 1) := by decide +kernel
theorem dL_law_976 : decode cL_law 976 = .ok (.iadd, 1) := by decide +kernel
theorem dL_law_977 : decode cL_law 977 = .ok (.iaload, 1) := by decide +kernel
theorem dL_law_978 : decode cL_law 978 = .ok (.aload_n 3, 1) := by decide +kernel
theorem dL_law_979 : decode cL_law 979 = .ok (.invokestatic 198, 3) := by decide +kernel
theorem dL_law_982 : decode cL_law 982 = .ok (.istore 6, 2) := by decide +kernel
theorem dL_law_984 : decode cL_law 984 = .ok (.aload_n 2, 1) := by decide +kernel
theorem dL_law_985 : decode cL_law 985 = .ok (.aload_n 0, 1) := by decide +kernel
theorem dL_law_986 : decode cL_law 986 = .ok (.iload 5, 2) := by decide +kernel
theorem dL_law_988 : decode cL_law 988 = .ok (.iconst 1, 1) := by decide +kernel
theorem dL_law_989 : decode cL_law 989 = .ok (.iadd, 1) := by decide +kernel
theorem dL_law_990 : decode cL_law 990 = .ok (.iaload, 1) := by decide +kernel
theorem dL_law_991 : decode cL_law 991 = .ok (.invokevirtual 200, 3) := by decide +kernel
theorem dL_law_994 : decode cL_law 994 = .ok (.istore 7, 2) := by decide +kernel
theorem dL_law_996 : decode cL_law 996 = .ok (.aload_n 2, 1) := by decide +kernel
theorem dL_law_997 : decode cL_law 997 = .ok (.invokevirtual 154, 3) := by decide +kernel
theorem dL_law_1000 : decode cL_law 1000 = .ok (.iload 6, 2) := by decide +kernel
theorem dL_law_1002 : decode cL_law 1002 = .ok (.if_icmp .eq 5, 3) := by decide +kernel
theorem dL_law_1005 : decode cL_law 1005 = .ok (.iconst 0, 1) := by decide +kernel
theorem dL_law_1006 : decode cL_law 1006 = .ok (.ireturn, 1) := by decide +kernel
theorem dL_law_1007 : decode cL_law 1007 = .ok (.iload 6, 2) := by decide +kernel
theorem dL_law_1009 : decode cL_law 1009 = .ok (.ifCond .ne 15, 3) := by decide +kernel
theorem dL_law_1012 : decode cL_law 1012 = .ok (.aload_n 3, 1) := by decide +kernel
theorem dL_law_1013 : decode cL_law 1013 = .ok (.iconst 0, 1) := by decide +kernel
theorem dL_law_1014 : decode cL_law 1014 = .ok (.laload, 1) := by decide +kernel
theorem dL_law_1015 : decode cL_law 1015 = .ok (.iload 7, 2) := by decide +kernel
theorem dL_law_1017 : decode cL_law 1017 = .ok (.i2l, 1) := by decide +kernel
theorem dL_law_1018 : decode cL_law 1018 = .ok (.lcmp, 1) := by decide +kernel
theorem dL_law_1019 : decode cL_law 1019 = .ok (.ifCond .eq 5, 3) := by decide +kernel
theorem dL_law_1022 : decode cL_law 1022 = .ok (.iconst 0, 1) := by decide +kernel
theorem dL_law_1023 : decode cL_law 1023 = .ok (.ireturn, 1) := by decide +kernel
theorem dL_law_1024 : decode cL_law 1024 = .ok (.goto 1646, 3) := by decide +kernel
theorem dL_law_1027 : decode cL_law 1027 = .ok (.aload_n 1, 1) := by decide +kernel
theorem dL_law_1028 : decode cL_law 1028 = .ok (.aload_n 0, 1) := by decide +kernel
theorem dL_law_1029 : decode cL_law 1029 = .ok (.iload 5, 2) := by decide +kernel
theorem dL_law_1031 : decode cL_law 1031 = .ok (.iconst 1, 1) := by decide +kernel
theorem dL_law_1032 : decode cL_law 1032 = .ok (.iadd, 1) := by decide +kernel
theorem dL_law_1033 : decode cL_law 1033 = .ok (.iaload, 1) := by decide +kernel
theorem dL_law_1034 : decode cL_law 1034 = .ok (.aload_n 3, 1) := by decide +kernel
theorem dL_law_1035 : decode cL_law 1035 = .ok (.invokestatic 201, 3) := by decide +kernel
theorem dL_law_1038 : decode cL_law 1038 = .ok (.istore 6, 2) := by decide +kernel
theorem dL_law_1040 : decode cL_law 1040 = .ok (.aload_n 2, 1) := by decide +kernel
theorem dL_law_1041 : decode cL_law 1041 = .ok (.aload_n 0, 1) := by decide +kernel
theorem dL_law_1042 : decode cL_law 1042 = .ok (.iload 5, 2) := by decide +kernel
theorem dL_law_1044 : decode cL_law 1044 = .ok (.iconst 1, 1) := by decide +kernel
theorem dL_law_1045 : decode cL_law 1045 = .ok (.iadd, 1) := by decide +kernel
theorem dL_law_1046 : decode cL_law 1046 = .ok (.iaload, 1) := by decide +kernel
theorem dL_law_1047 : decode cL_law 1047 = .ok (.invokevirtual 203, 3) := by decide +kernel
theorem dL_law_1050 : decode cL_law 1050 = .ok (.istore 7, 2) := by decide +kernel
theorem dL_law_1052 : decode cL_law 1052 = .ok (.aload_n 2, 1) := by decide +kernel
theorem dL_law_1053 : decode cL_law 1053 = .ok (.invokevirtual 154, 3) := by decide +kernel
theorem dL_law_1056 : decode cL_law 1056 = .ok (.iload 6, 2) := by decide +kernel
theorem dL_law_1058 : decode cL_law 1058 = .ok (.if_icmp .eq 5, 3) := by decide +kernel
theorem dL_law_1061 : decode cL_law 1061 = .ok (.iconst 0, 1) := by decide +kernel
theorem dL_law_1062 : decode cL_law 1062 = .ok (.ireturn, 1) := by decide +kernel
theorem dL_law_1063 : decode cL_law 1063 = .ok (.iload 6, 2) := by decide +kernel
theorem dL_law_1065 : decode cL_law 1065 = .ok (.ifCond .ne 22, 3) := by decide +kernel
theorem dL_law_1068 : decode cL_law 1068 = .ok (.aload_n 3, 1) := by decide +kernel
theorem dL_law_1069 : decode cL_law 1069 = .ok (.iconst 0, 1) := by decide +kernel
theorem dL_law_1070 : decode cL_law 1070 = .ok (.laload, 1) := by decide +kernel
theorem dL_law_1071 : decode cL_law 1071 = .ok (.iload 7, 2) := by decide +kernel
theorem dL_law_1073 : decode cL_law 1073 = .ok (.ifCond .eq 7, 3) := by decide +kernel
theorem dL_law_1076 : decode cL_law 1076 = .ok (.lconst 1, 1) := by decide +kernel
theorem dL_law_1077 : decode cL_law 1077 = .ok (.goto 4, 3) := by decide +kernel
theorem dL_law_1080 : decode cL_law 1080 = .ok (.lconst 0, 1) := by decide +kernel
theorem dL_law_1081 : decode cL_law 1081 = .ok (.lcmp, 1) := by decide +kernel
theorem dL_law_1082 : decode cL_law 1082 = .ok (.ifCond .eq 5, 3) := by decide +kernel
theorem dL_law_1085 : decode cL_law 1085 = .ok (.iconst 0, 1) := by decide +kernel
theorem dL_law_1086 : decode cL_law 1086 = .ok (.ireturn, 1) := by decide +kernel
theorem dL_law_1087 : decode cL_law 1087 = .ok (.goto 1583, 3) := by decide +kernel
theorem dL_law_1090 : decode cL_law 1090 = .ok (.aload_n 1, 1) := by decide +kernel
theorem dL_law_1091 : decode cL_law 1091 = .ok (.aload_n 0, 1) := by decide +kernel
theorem dL_law_1092 : decode cL_law 1092 = .ok (.iload 5, 2) := by decide +kernel
theorem dL_law_1094 : decode cL_law 1094 = .ok (.iconst 1, 1) := by decide +kernel
theorem dL_law_1095 : decode cL_law 1095 = .ok (.iadd, 1) := by decide +kernel
theorem dL_law_1096 : decode cL_law 1096 = .ok (.iaload, 1) := by decide +kernel
theorem dL_law_1097 : decode cL_law 1097 = .ok (.aload_n 3, 1) := by decide +kernel
theorem dL_law_1098 : decode cL_law 1098 = .ok (.invokestatic 204, 3) := by decide +kernel
theorem dL_law_1101 : decode cL_law 1101 = .ok (.istore 6, 2) := by decide +kernel
theorem dL_law_1103 : decode cL_law 1103 = .ok (.aload_n 2, 1) := by decide +kernel
theorem dL_law_1104 : decode cL_law 1104 = .ok (.aload_n 0, 1) := by decide +kernel
theorem dL_law_1105 : decode cL_law 1105 = .ok (.iload 5, 2) := by decide +kernel
theorem dL_law_1107 : decode cL_law 1107 = .ok (.iconst 1, 1) := by decide +kernel
theorem dL_law_1108 : decode cL_law 1108 = .ok (.iadd, 1) := by decide +kernel
theorem dL_law_1109 : decode cL_law 1109 = .ok (.iaload, 1) := by decide +kernel
theorem dL_law_1110 : decode cL_law 1110 = .ok (.invokevirtual 206, 3) := by decide +kernel
theorem dL_law_1113 : decode cL_law 1113 = .ok (.istore 7, 2) := by decide +kernel
theorem dL_law_1115 : decode cL_law 1115 = .ok (.aload_n 2, 1) := by decide +kernel
theorem dL_law_1116 : decode cL_law 1116 = .ok (.invokevirtual 154, 3) := by decide +kernel
theorem dL_law_1119 : decode cL_law 1119 = .ok (.iload 6, 2) := by decide +kernel
theorem dL_law_1121 : decode cL_law 1121 = .ok (.if_icmp .eq 5, 3) := by decide +kernel
theorem dL_law_1124 : decode cL_law 1124 = .ok (.iconst 0, 1) := by decide +kernel
theorem dL_law_1125 : decode cL_law 1125 = .ok (.ireturn, 1) := by decide +kernel
theorem dL_law_1126 : decode cL_law 1126 = .ok (.iload 6, 2) := by decide +kernel
theorem dL_law_1128 : decode cL_law 1128 = .ok (.ifCond .ne 22, 3) := by decide +kernel
theorem dL_law_1131 : decode cL_law 1131 = .ok (.aload_n 3, 1) := by decide +kernel
theorem dL_law_1132 : decode cL_law 1132 = .ok (.iconst 0, 1) := by decide +kernel
theorem dL_law_1133 : decode cL_law 1133 = .ok (.laload, 1) := by decide +kernel
theorem dL_law_1134 : decode cL_law 1134 = .ok (.iload 7, 2) := by decide +kernel
theorem dL_law_1136 : decode cL_law 1136 = .ok (.ifCond .eq 7, 3) := by decide +kernel
theorem dL_law_1139 : decode cL_law 1139 = .ok (.lconst 1, 1) := by decide +kernel
theorem dL_law_1140 : decode cL_law 1140 = .ok (.goto 4, 3) := by decide +kernel
theorem dL_law_1143 : decode cL_law 1143 = .ok (.lconst 0, 1) := by decide +kernel
theorem dL_law_1144 : decode cL_law 1144 = .ok (.lcmp, 1) := by decide +kernel
theorem dL_law_1145 : decode cL_law 1145 = .ok (.ifCond .eq 5, 3) := by decide +kernel
theorem dL_law_1148 : decode cL_law 1148 = .ok (.iconst 0, 1) := by decide +kernel
theorem dL_law_1149 : decode cL_law 1149 = .ok (.ireturn, 1) := by decide +kernel
theorem dL_law_1150 : decode cL_law 1150 = .ok (.goto 1520, 3) := by decide +kernel
theorem dL_law_1153 : decode cL_law 1153 = .ok (.aload_n 1, 1) := by decide +kernel
theorem dL_law_1154 : decode cL_law 1154 = .ok (.aload_n 0, 1) := by decide +kernel
theorem dL_law_1155 : decode cL_law 1155 = .ok (.iload 5, 2) := by decide +kernel
theorem dL_law_1157 : decode cL_law 1157 = .ok (.iconst 1, 1) := by decide +kernel
theorem dL_law_1158 : decode cL_law 1158 = .ok (.iadd, 1) := by decide +kernel
theorem dL_law_1159 : decode cL_law 1159 = .ok (.iaload, 1) := by decide +kernel
theorem dL_law_1160 : decode cL_law 1160 = .ok (.aload_n 0, 1) := by decide +kernel
theorem dL_law_1161 : decode cL_law 1161 = .ok (.iload 5, 2) := by decide +kernel
theorem dL_law_1163 : decode cL_law 1163 = .ok (.iconst 2, 1) := by decide +kernel
theorem dL_law_1164 : decode cL_law 1164 = .ok (.iadd, 1) := by decide +kernel
theorem dL_law_1165 : decode cL_law 1165 = .ok (.iaload, 1) := by decide +kernel
theorem dL_law_1166 : decode cL_law 1166 = .ok (.aload_n 3, 1) := by decide +kernel
theorem dL_law_1167 : decode cL_law 1167 = .ok (.invokestatic 207, 3) := by decide +kernel
theorem dL_law_1170 : decode cL_law 1170 = .ok (.istore 6, 2) := by decide +kernel
theorem dL_law_1172 : decode cL_law 1172 = .ok (.aload_n 2, 1) := by decide +kernel
theorem dL_law_1173 : decode cL_law 1173 = .ok (.aload_n 0, 1) := by decide +kernel
theorem dL_law_1174 : decode cL_law 1174 = .ok (.iload 5, 2) := by decide +kernel
theorem dL_law_1176 : decode cL_law 1176 = .ok (.iconst 1, 1) := by decide +kernel
theorem dL_law_1177 : decode cL_law 1177 = .ok (.iadd, 1) := by decide +kernel
theorem dL_law_1178 : decode cL_law 1178 = .ok (.iaload, 1) := by decide +kernel
theorem dL_law_1179 : decode cL_law 1179 = .ok (.aload_n 0, 1) := by decide +kernel
theorem dL_law_1180 : decode cL_law 1180 = .ok (.iload 5, 2) := by decide +kernel
theorem dL_law_1182 : decode cL_law 1182 = .ok (.iconst 2, 1) := by decide +kernel
theorem dL_law_1183 : decode cL_law 1183 = .ok (.iadd, 1) := by decide +kernel
theorem dL_law_1184 : decode cL_law 1184 = .ok (.iaload, 1) := by decide +kernel
theorem dL_law_1185 : decode cL_law 1185 = .ok (.invokevirtual 209, 3) := by decide +kernel
theorem dL_law_1188 : decode cL_law 1188 = .ok (.istore 7, 2) := by decide +kernel
theorem dL_law_1190 : decode cL_law 1190 = .ok (.aload_n 2, 1) := by decide +kernel
theorem dL_law_1191 : decode cL_law 1191 = .ok (.invokevirtual 154, 3) := by decide +kernel
theorem dL_law_1194 : decode cL_law 1194 = .ok (.iload 6, 2) := by decide +kernel
theorem dL_law_1196 : decode cL_law 1196 = .ok (.if_icmp .eq 5, 3) := by decide +kernel
theorem dL_law_1199 : decode cL_law 1199 = .ok (.iconst 0, 1) := by decide +kernel
theorem dL_law_1200 : decode cL_law 1200 = .ok (.ireturn, 1) := by decide +kernel
theorem dL_law_1201 : decode cL_law 1201 = .ok (.iload 6, 2) := by decide +kernel
theorem dL_law_1203 : decode cL_law 1203 = .ok (.ifCond .ne 15, 3) := by decide +kernel
theorem dL_law_1206 : decode cL_law 1206 = .ok (.aload_n 3, 1) := by decide +kernel
theorem dL_law_1207 : decode cL_law 1207 = .ok (.iconst 0, 1) := by decide +kernel
theorem dL_law_1208 : decode cL_law 1208 = .ok (.laload, 1) := by decide +kernel
theorem dL_law_1209 : decode cL_law 1209 = .ok (.iload 7, 2) := by decide +kernel
theorem dL_law_1211 : decode cL_law 1211 = .ok (.i2l, 1) := by decide +kernel
theorem dL_law_1212 : decode cL_law 1212 = .ok (.lcmp, 1) := by decide +kernel
theorem dL_law_1213 : decode cL_law 1213 = .ok (.ifCond .eq 5, 3) := by decide +kernel
theorem dL_law_1216 : decode cL_law 1216 = .ok (.iconst 0, 1) := by decide +kernel
theorem dL_law_1217 : decode cL_law 1217 = .ok (.ireturn, 1) := by decide +kernel
theorem dL_law_1218 : decode cL_law 1218 = .ok (.goto 1452, 3) := by decide +kernel
theorem dL_law_1221 : decode cL_law 1221 = .ok (.aload_n 1, 1) := by decide +kernel
theorem dL_law_1222 : decode cL_law 1222 = .ok (.aload_n 0, 1) := by decide +kernel
theorem dL_law_1223 : decode cL_law 1223 = .ok (.iload 5, 2) := by decide +kernel
theorem dL_law_1225 : decode cL_law 1225 = .ok (.iconst 1, 1) := by decide +kernel
theorem dL_law_1226 : decode cL_law 1226 = .ok (.iadd, 1) := by decide +kernel
theorem dL_law_1227 : decode cL_law 1227 = .ok (.iaload, 1) := by decide +kernel
theorem dL_law_1228 : decode cL_law 1228 = .ok (.aload_n 3, 1) := by decide +kernel
theorem dL_law_1229 : decode cL_law 1229 = .ok (.invokestatic 210, 3) := by decide +kernel
theorem dL_law_1232 : decode cL_law 1232 = .ok (.istore 6, 2) := by decide +kernel
theorem dL_law_1234 : decode cL_law 1234 = .ok (.aload_n 2, 1) := by decide +kernel
theorem dL_law_1235 : decode cL_law 1235 = .ok (.aload_n 0, 1) := by decide +kernel
theorem dL_law_1236 : decode cL_law 1236 = .ok (.iload 5, 2) := by decide +kernel
theorem dL_law_1238 : decode cL_law 1238 = .ok (.iconst 1, 1) := by decide +kernel
theorem dL_law_1239 : decode cL_law 1239 = .ok (.iadd, 1) := by decide +kernel
theorem dL_law_1240 : decode cL_law 1240 = .ok (.iaload, 1) := by decide +kernel
theorem dL_law_1241 : decode cL_law 1241 = .ok (.invokevirtual 212, 3) := by decide +kernel
theorem dL_law_1244 : decode cL_law 1244 = .ok (.istore 7, 2) := by decide +kernel
theorem dL_law_1246 : decode cL_law 1246 = .ok (.aload_n 2, 1) := by decide +kernel
theorem dL_law_1247 : decode cL_law 1247 = .ok (.invokevirtual 154, 3) := by decide +kernel
theorem dL_law_1250 : decode cL_law 1250 = .ok (.iload 6, 2) := by decide +kernel
theorem dL_law_1252 : decode cL_law 1252 = .ok (.if_icmp .eq 5, 3) := by decide +kernel
theorem dL_law_1255 : decode cL_law 1255 = .ok (.iconst 0, 1) := by decide +kernel
theorem dL_law_1256 : decode cL_law 1256 = .ok (.ireturn, 1) := by decide +kernel
theorem dL_law_1257 : decode cL_law 1257 = .ok (.iload 6, 2) := by decide +kernel
theorem dL_law_1259 : decode cL_law 1259 = .ok (.ifCond .ne 15, 3) := by decide +kernel
theorem dL_law_1262 : decode cL_law 1262 = .ok (.aload_n 3, 1) := by decide +kernel
theorem dL_law_1263 : decode cL_law 1263 = .ok (.iconst 0, 1) := by decide +kernel
theorem dL_law_1264 : decode cL_law 1264 = .ok (.laload, 1) := by decide +kernel
theorem dL_law_1265 : decode cL_law 1265 = .ok (.iload 7, 2) := by decide +kernel
theorem dL_law_1267 : decode cL_law 1267 = .ok (.i2l, 1) := by decide +kernel
theorem dL_law_1268 : decode cL_law 1268 = .ok (.lcmp, 1) := by decide +kernel
theorem dL_law_1269 : decode cL_law 1269 = .ok (.ifCond .eq 5, 3) := by decide +kernel
theorem dL_law_1272 : decode cL_law 1272 = .ok (.iconst 0, 1) := by decide +kernel
theorem dL_law_1273 : decode cL_law 1273 = .ok (.ireturn, 1) := by decide +kernel
theorem dL_law_1274 : decode cL_law 1274 = .ok (.goto 1396, 3) := by decide +kernel
theorem dL_law_1277 : decode cL_law 1277 = .ok (.aload_n 1, 1) := by decide +kernel
theorem dL_law_1278 : decode cL_law 1278 = .ok (.invokevirtual 213, 3) := by decide +kernel
theorem dL_law_1281 : decode cL_law 1281 = .ok (.aload_n 2, 1) := by decide +kernel
theorem dL_law_1282 : decode cL_law 1282 = .ok (.invokevirtual 216, 3) := by decide +kernel
theorem dL_law_1285 : decode cL_law 1285 = .ok (.if_icmp .eq 1385, 3) := by decide +kernel
theorem dL_law_1288 : decode cL_law 1288 = .ok (.iconst 0, 1) := by decide +kernel
theorem dL_law_1289 : decode cL_law 1289 = .ok (.ireturn, 1) := by decide +kernel
theorem dL_law_1290 : decode cL_law 1290 = .ok (.aload_n 1, 1) := by decide +kernel
theorem dL_law_1291 : decode cL_law 1291 = .ok (.aload_n 0, 1) := by decide +kernel
theorem dL_law_1292 : decode cL_law 1292 = .ok (.iload 5, 2) := by decide +kernel
theorem dL_law_1294 : decode cL_law 1294 = .ok (.iconst 1, 1) := by decide +kernel
theorem dL_law_1295 : decode cL_law 1295 = .ok (.iadd, 1) := by decide +kernel
theorem dL_law_1296 : decode cL_law 1296 = .ok (.iaload, 1) := by decide +kernel
theorem dL_law_1297 : decode cL_law 1297 = .ok (.aload_n 3, 1) := by decide +kernel
theorem dL_law_1298 : decode cL_law 1298 = .ok (.invokestatic 217, 3) := by decide +kernel
theorem dL_law_1301 : decode cL_law 1301 = .ok (.istore 6, 2) := by decide +kernel
theorem dL_law_1303 : decode cL_law 1303 = .ok (.aload_n 2, 1) := by decide +kernel
theorem dL_law_1304 : decode cL_law 1304 = .ok (.aload_n 0, 1) := by decide +kernel
theorem dL_law_1305 : decode cL_law 1305 = .ok (.iload 5, 2) := by decide +kernel
theorem dL_law_1307 : decode cL_law 1307 = .ok (.iconst 1, 1) := by decide +kernel
theorem dL_law_1308 : decode cL_law 1308 = .ok (.iadd, 1) := by decide +kernel
theorem dL_law_1309 : decode cL_law 1309 = .ok (.iaload, 1) := by decide +kernel
theorem dL_law_1310 : decode cL_law 1310 = .ok (.invokevirtual 219, 3) := by decide +kernel
theorem dL_law_1313 : decode cL_law 1313 = .ok (.istore 7, 2) := by decide +kernel
theorem dL_law_1315 : decode cL_law 1315 = .ok (.aload_n 2, 1) := by decide +kernel
theorem dL_law_1316 : decode cL_law 1316 = .ok (.invokevirtual 154, 3) := by decide +kernel
theorem dL_law_1319 : decode cL_law 1319 = .ok (.iload 6, 2) := by decide +kernel
theorem dL_law_1321 : decode cL_law 1321 = .ok (.if_icmp .eq 5, 3) := by decide +kernel
theorem dL_law_1324 : decode cL_law 1324 = .ok (.iconst 0, 1) := by decide +kernel
theorem dL_law_1325 : decode cL_law 1325 = .ok (.ireturn, 1) := by decide +kernel
theorem dL_law_1326 : decode cL_law 1326 = .ok (.iload 6, 2) := by decide +kernel
theorem dL_law_1328 : decode cL_law 1328 = .ok (.ifCond .ne 15, 3) := by decide +kernel
theorem dL_law_1331 : decode cL_law 1331 = .ok (.aload_n 3, 1) := by decide +kernel
theorem dL_law_1332 : decode cL_law 1332 = .ok (.iconst 0, 1) := by decide +kernel
theorem dL_law_1333 : decode cL_law 1333 = .ok (.laload, 1) := by decide +kernel
theorem dL_law_1334 : decode cL_law 1334 = .ok (.iload 7, 2) := by decide +kernel
theorem dL_law_1336 : decode cL_law 1336 = .ok (.i2l, 1) := by decide +kernel
theorem dL_law_1337 : decode cL_law 1337 = .ok (.lcmp, 1) := by decide +kernel
theorem dL_law_1338 : decode cL_law 1338 = .ok (.ifCond .eq 5, 3) := by decide +kernel
theorem dL_law_1341 : decode cL_law 1341 = .ok (.iconst 0, 1) := by decide +kernel
theorem dL_law_1342 : decode cL_law 1342 = .ok (.ireturn, 1) := by decide +kernel
theorem dL_law_1343 : decode cL_law 1343 = .ok (.goto 1327, 3) := by decide +kernel
theorem dL_law_1346 : decode cL_law 1346 = .ok (.aload_n 1, 1) := by decide +kernel
theorem dL_law_1347 : decode cL_law 1347 = .ok (.aload_n 0, 1) := by decide +kernel
theorem dL_law_1348 : decode cL_law 1348 = .ok (.iload 5, 2) := by decide +kernel
theorem dL_law_1350 : decode cL_law 1350 = .ok (.iconst 1, 1) := by decide +kernel
theorem dL_law_1351 : decode cL_law 1351 = .ok (.iadd, 1) := by decide +kernel
theorem dL_law_1352 : decode cL_law 1352 = .ok (.iaload, 1) := by decide +kernel
theorem dL_law_1353 : decode cL_law 1353 = .ok (.aload_n 3, 1) := by decide +kernel
theorem dL_law_1354 : decode cL_law 1354 = .ok (.invokestatic 220, 3) := by decide +kernel
theorem dL_law_1357 : decode cL_law 1357 = .ok (.istore 6, 2) := by decide +kernel
theorem dL_law_1359 : decode cL_law 1359 = .ok (.aload_n 2, 1) := by decide +kernel
theorem dL_law_1360 : decode cL_law 1360 = .ok (.aload_n 0, 1) := by decide +kernel
theorem dL_law_1361 : decode cL_law 1361 = .ok (.iload 5, 2) := by decide +kernel
theorem dL_law_1363 : decode cL_law 1363 = .ok (.iconst 1, 1) := by decide +kernel
theorem dL_law_1364 : decode cL_law 1364 = .ok (.iadd, 1) := by decide +kernel
theorem dL_law_1365 : decode cL_law 1365 = .ok (.iaload, 1) := by decide +kernel
theorem dL_law_1366 : decode cL_law 1366 = .ok (.invokevirtual 222, 3) := by decide +kernel
theorem dL_law_1369 : decode cL_law 1369 = .ok (.istore 7, 2) := by decide +kernel
theorem dL_law_1371 : decode cL_law 1371 = .ok (.aload_n 2, 1) := by decide +kernel
theorem dL_law_1372 : decode cL_law 1372 = .ok (.invokevirtual 154, 3) := by decide +kernel
theorem dL_law_1375 : decode cL_law 1375 = .ok (.iload 6, 2) := by decide +kernel
theorem dL_law_1377 : decode cL_law 1377 = .ok (.if_icmp .eq 5, 3) := by decide +kernel
theorem dL_law_1380 : decode cL_law 1380 = .ok (.iconst 0, 1) := by decide +kernel
theorem dL_law_1381 : decode cL_law 1381 = .ok (.ireturn, 1) := by decide +kernel
theorem dL_law_1382 : decode cL_law 1382 = .ok (.iload 6, 2) := by decide +kernel
theorem dL_law_1384 : decode cL_law 1384 = .ok (.ifCond .ne 15, 3) := by decide +kernel
theorem dL_law_1387 : decode cL_law 1387 = .ok (.aload_n 3, 1) := by decide +kernel
theorem dL_law_1388 : decode cL_law 1388 = .ok (.iconst 0, 1) := by decide +kernel
theorem dL_law_1389 : decode cL_law 1389 = .ok (.laload, 1) := by decide +kernel
theorem dL_law_1390 : decode cL_law 1390 = .ok (.iload 7, 2) := by decide +kernel
theorem dL_law_1392 : decode cL_law 1392 = .ok (.i2l, 1) := by decide +kernel
theorem dL_law_1393 : decode cL_law 1393 = .ok (.lcmp, 1) := by decide +kernel
theorem dL_law_1394 : decode cL_law 1394 = .ok (.ifCond .eq 5, 3) := by decide +kernel
theorem dL_law_1397 : decode cL_law 1397 = .ok (.iconst 0, 1) := by decide +kernel
theorem dL_law_1398 : decode cL_law 1398 = .ok (.ireturn, 1) := by decide +kernel
theorem dL_law_1399 : decode cL_law 1399 = .ok (.goto 1271, 3) := by decide +kernel
theorem dL_law_1402 : decode cL_law 1402 = .ok (.aload_n 1, 1) := by decide +kernel
theorem dL_law_1403 : decode cL_law 1403 = .ok (.aload_n 0, 1) := by decide +kernel
theorem dL_law_1404 : decode cL_law 1404 = .ok (.iload 5, 2) := by decide +kernel
theorem dL_law_1406 : decode cL_law 1406 = .ok (.iconst 1, 1) := by decide +kernel
theorem dL_law_1407 : decode cL_law 1407 = .ok (.iadd, 1) := by decide +kernel
theorem dL_law_1408 : decode cL_law 1408 = .ok (.iaload, 1) := by decide +kernel
theorem dL_law_1409 : decode cL_law 1409 = .ok (.aload_n 3, 1) := by decide +kernel
theorem dL_law_1410 : decode cL_law 1410 = .ok (.invokestatic 223, 3) := by decide +kernel
theorem dL_law_1413 : decode cL_law 1413 = .ok (.istore 6, 2) := by decide +kernel
theorem dL_law_1415 : decode cL_law 1415 = .ok (.aload_n 2, 1) := by decide +kernel
theorem dL_law_1416 : decode cL_law 1416 = .ok (.aload_n 0, 1) := by decide +kernel
theorem dL_law_1417 : decode cL_law 1417 = .ok (.iload 5, 2) := by decide +kernel
theorem dL_law_1419 : decode cL_law 1419 = .ok (.iconst 1, 1) := by decide +kernel
theorem dL_law_1420 : decode cL_law 1420 = .ok (.iadd, 1) := by decide +kernel
theorem dL_law_1421 : decode cL_law 1421 = .ok (.iaload, 1) := by decide +kernel
theorem dL_law_1422 : decode cL_law 1422 = .ok (.invokevirtual 225, 3) := by decide +kernel
theorem dL_law_1425 : decode cL_law 1425 = .ok (.istore 7, 2) := by decide +kernel
theorem dL_law_1427 : decode cL_law 1427 = .ok (.aload_n 2, 1) := by decide +kernel
theorem dL_law_1428 : decode cL_law 1428 = .ok (.invokevirtual 154, 3) := by decide +kernel
theorem dL_law_1431 : decode cL_law 1431 = .ok (.iload 6, 2) := by decide +kernel
theorem dL_law_1433 : decode cL_law 1433 = .ok (.if_icmp .eq 5, 3) := by decide +kernel
theorem dL_law_1436 : decode cL_law 1436 = .ok (.iconst 0, 1) := by decide +kernel
theorem dL_law_1437 : decode cL_law 1437 = .ok (.ireturn, 1) := by decide +kernel
theorem dL_law_1438 : decode cL_law 1438 = .ok (.iload 6, 2) := by decide +kernel
theorem dL_law_1440 : decode cL_law 1440 = .ok (.ifCond .ne 15, 3) := by decide +kernel
theorem dL_law_1443 : decode cL_law 1443 = .ok (.aload_n 3, 1) := by decide +kernel
theorem dL_law_1444 : decode cL_law 1444 = .ok (.iconst 0, 1) := by decide +kernel
theorem dL_law_1445 : decode cL_law 1445 = .ok (.laload, 1) := by decide +kernel
theorem dL_law_1446 : decode cL_law 1446 = .ok (.iload 7, 2) := by decide +kernel
theorem dL_law_1448 : decode cL_law 1448 = .ok (.i2l, 1) := by decide +kernel
theorem dL_law_1449 : decode cL_law 1449 = .ok (.lcmp, 1) := by decide +kernel
theorem dL_law_1450 : decode cL_law 1450 = .ok (.ifCond .eq 5, 3) := by decide +kernel
theorem dL_law_1453 : decode cL_law 1453 = .ok (.iconst 0, 1) := by decide +kernel
theorem dL_law_1454 : decode cL_law 1454 = .ok (.ireturn, 1) := by decide +kernel
theorem dL_law_1455 : decode cL_law 1455 = .ok (.goto 1215, 3) := by decide +kernel
theorem dL_law_1458 : decode cL_law 1458 = .ok (.aload_n 1, 1) := by decide +kernel
theorem dL_law_1459 : decode cL_law 1459 = .ok (.aload_n 0, 1) := by decide +kernel
theorem dL_law_1460 : decode cL_law 1460 = .ok (.iload 5, 2) := by decide +kernel
theorem dL_law_1462 : decode cL_law 1462 = .ok (.iconst 1, 1) := by decide +kernel
theorem dL_law_1463 : decode cL_law 1463 = .ok (.iadd, 1) := by decide +kernel
theorem dL_law_1464 : decode cL_law 1464 = .ok (.iaload, 1) := by decide +kernel
theorem dL_law_1465 : decode cL_law 1465 = .ok (.aload_n 3, 1) := by decide +kernel
theorem dL_law_1466 : decode cL_law 1466 = .ok (.invokestatic 226, 3) := by decide +kernel
theorem dL_law_1469 : decode cL_law 1469 = .ok (.istore 6, 2) := by decide +kernel
theorem dL_law_1471 : decode cL_law 1471 = .ok (.aload_n 2, 1) := by decide +kernel
theorem dL_law_1472 : decode cL_law 1472 = .ok (.aload_n 0, 1) := by decide +kernel
theorem dL_law_1473 : decode cL_law 1473 = .ok (.iload 5, 2) := by decide +kernel
theorem dL_law_1475 : decode cL_law 1475 = .ok (.iconst 1, 1) := by decide +kernel
theorem dL_law_1476 : decode cL_law 1476 = .ok (.iadd, 1) := by decide +kernel
theorem dL_law_1477 : decode cL_law 1477 = .ok (.iaload, 1) := by decide +kernel
theorem dL_law_1478 : decode cL_law 1478 = .ok (.invokevirtual 228, 3) := by decide +kernel
theorem dL_law_1481 : decode cL_law 1481 = .ok (.istore 7, 2) := by decide +kernel
theorem dL_law_1483 : decode cL_law 1483 = .ok (.aload_n 2, 1) := by decide +kernel
theorem dL_law_1484 : decode cL_law 1484 = .ok (.invokevirtual 154, 3) := by decide +kernel
theorem dL_law_1487 : decode cL_law 1487 = .ok (.iload 6, 2) := by decide +kernel
theorem dL_law_1489 : decode cL_law 1489 = .ok (.if_icmp .eq 5, 3) := by decide +kernel
theorem dL_law_1492 : decode cL_law 1492 = .ok (.iconst 0, 1) := by decide +kernel
theorem dL_law_1493 : decode cL_law 1493 = .ok (.ireturn, 1) := by decide +kernel
theorem dL_law_1494 : decode cL_law 1494 = .ok (.iload 6, 2) := by decide +kernel
theorem dL_law_1496 : decode cL_law 1496 = .ok (.ifCond .ne 15, 3) := by decide +kernel
theorem dL_law_1499 : decode cL_law 1499 = .ok (.aload_n 3, 1) := by decide +kernel
theorem dL_law_1500 : decode cL_law 1500 = .ok (.iconst 0, 1) := by decide +kernel
theorem dL_law_1501 : decode cL_law 1501 = .ok (.laload, 1) := by decide +kernel
theorem dL_law_1502 : decode cL_law 1502 = .ok (.iload 7, 2) := by decide +kernel
theorem dL_law_1504 : decode cL_law 1504 = .ok (.i2l, 1) := by decide +kernel
theorem dL_law_1505 : decode cL_law 1505 = .ok (.lcmp, 1) := by decide +kernel
theorem dL_law_1506 : decode cL_law 1506 = .ok (.ifCond .eq 5, 3) := by decide +kernel
theorem dL_law_1509 : decode cL_law 1509 = .ok (.iconst 0, 1) := by decide +kernel
theorem dL_law_1510 : decode cL_law 1510 = .ok (.ireturn, 1) := by decide +kernel
theorem dL_law_1511 : decode cL_law 1511 = .ok (.goto 1159, 3) := by decide +kernel
theorem dL_law_1514 : decode cL_law 1514 = .ok (.aload_n 1, 1) := by decide +kernel
theorem dL_law_1515 : decode cL_law 1515 = .ok (.aload_n 0, 1) := by decide +kernel
theorem dL_law_1516 : decode cL_law 1516 = .ok (.iload 5, 2) := by decide +kernel
theorem dL_law_1518 : decode cL_law 1518 = .ok (.iconst 1, 1) := by decide +kernel
theorem dL_law_1519 : decode cL_law 1519 = .ok (.iadd, 1) := by decide +kernel
theorem dL_law_1520 : decode cL_law 1520 = .ok (.iaload, 1) := by decide +kernel
theorem dL_law_1521 : decode cL_law 1521 = .ok (.aload_n 3, 1) := by decide +kernel
theorem dL_law_1522 : decode cL_law 1522 = .ok (.invokestatic 229, 3) := by decide +kernel
theorem dL_law_1525 : decode cL_law 1525 = .ok (.istore 6, 2) := by decide +kernel
theorem dL_law_1527 : decode cL_law 1527 = .ok (.aload_n 2, 1) := by decide +kernel
theorem dL_law_1528 : decode cL_law 1528 = .ok (.aload_n 0, 1) := by decide +kernel
theorem dL_law_1529 : decode cL_law 1529 = .ok (.iload 5, 2) := by decide +kernel
theorem dL_law_1531 : decode cL_law 1531 = .ok (.iconst 1, 1) := by decide +kernel
theorem dL_law_1532 : decode cL_law 1532 = .ok (.iadd, 1) := by decide +kernel
theorem dL_law_1533 : decode cL_law 1533 = .ok (.iaload, 1) := by decide +kernel
theorem dL_law_1534 : decode cL_law 1534 = .ok (.invokevirtual 231, 3) := by decide +kernel
theorem dL_law_1537 : decode cL_law 1537 = .ok (.istore 7, 2) := by decide +kernel
theorem dL_law_1539 : decode cL_law 1539 = .ok (.aload_n 2, 1) := by decide +kernel
theorem dL_law_1540 : decode cL_law 1540 = .ok (.invokevirtual 154, 3) := by decide +kernel
theorem dL_law_1543 : decode cL_law 1543 = .ok (.iload 6, 2) := by decide +kernel
theorem dL_law_1545 : decode cL_law 1545 = .ok (.if_icmp .eq 5, 3) := by decide +kernel
theorem dL_law_1548 : decode cL_law 1548 = .ok (.iconst 0, 1) := by decide +kernel
theorem dL_law_1549 : decode cL_law 1549 = .ok (.ireturn, 1) := by decide +kernel
theorem dL_law_1550 : decode cL_law 1550 = .ok (.iload 6, 2) := by decide +kernel
theorem dL_law_1552 : decode cL_law 1552 = .ok (.ifCond .ne 15, 3) := by decide +kernel
theorem dL_law_1555 : decode cL_law 1555 = .ok (.aload_n 3, 1) := by decide +kernel
theorem dL_law_1556 : decode cL_law 1556 = .ok (.iconst 0, 1) := by decide +kernel
theorem dL_law_1557 : decode cL_law 1557 = .ok (.laload, 1) := by decide +kernel
theorem dL_law_1558 : decode cL_law 1558 = .ok (.iload 7, 2) := by decide +kernel
theorem dL_law_1560 : decode cL_law 1560 = .ok (.i2l, 1) := by decide +kernel
theorem dL_law_1561 : decode cL_law 1561 = .ok (.lcmp, 1) := by decide +kernel
theorem dL_law_1562 : decode cL_law 1562 = .ok (.ifCond .eq 5, 3) := by decide +kernel
theorem dL_law_1565 : decode cL_law 1565 = .ok (.iconst 0, 1) := by decide +kernel
theorem dL_law_1566 : decode cL_law 1566 = .ok (.ireturn, 1) := by decide +kernel
theorem dL_law_1567 : decode cL_law 1567 = .ok (.goto 1103, 3) := by decide +kernel
theorem dL_law_1570 : decode cL_law 1570 = .ok (.aload_n 1, 1) := by decide +kernel
theorem dL_law_1571 : decode cL_law 1571 = .ok (.aload_n 0, 1) := by decide +kernel
theorem dL_law_1572 : decode cL_law 1572 = .ok (.iload 5, 2) := by decide +kernel
theorem dL_law_1574 : decode cL_law 1574 = .ok (.iconst 1, 1) := by decide +kernel
theorem dL_law_1575 : decode cL_law 1575 = .ok (.iadd, 1) := by decide +kernel
theorem dL_law_1576 : decode cL_law 1576 = .ok (.iaload, 1) := by decide +kernel
theorem dL_law_1577 : decode cL_law 1577 = .ok (.aload_n 3, 1) := by decide +kernel
theorem dL_law_1578 : decode cL_law 1578 = .ok (.invokestatic 232, 3) := by decide +kernel
theorem dL_law_1581 : decode cL_law 1581 = .ok (.istore 6, 2) := by decide +kernel
theorem dL_law_1583 : decode cL_law 1583 = .ok (.aload_n 2, 1) := by decide +kernel
theorem dL_law_1584 : decode cL_law 1584 = .ok (.aload_n 0, 1) := by decide +kernel
theorem dL_law_1585 : decode cL_law 1585 = .ok (.iload 5, 2) := by decide +kernel
theorem dL_law_1587 : decode cL_law 1587 = .ok (.iconst 1, 1) := by decide +kernel
theorem dL_law_1588 : decode cL_law 1588 = .ok (.iadd, 1) := by decide +kernel
theorem dL_law_1589 : decode cL_law 1589 = .ok (.iaload, 1) := by decide +kernel
theorem dL_law_1590 : decode cL_law 1590 = .ok (.invokevirtual 234, 3) := by decide +kernel
theorem dL_law_1593 : decode cL_law 1593 = .ok (.istore 7, 2) := by decide +kernel
theorem dL_law_1595 : decode cL_law 1595 = .ok (.aload_n 2, 1) := by decide +kernel
theorem dL_law_1596 : decode cL_law 1596 = .ok (.invokevirtual 154, 3) := by decide +kernel
theorem dL_law_1599 : decode cL_law 1599 = .ok (.iload 6, 2) := by decide +kernel
theorem dL_law_1601 : decode cL_law 1601 = .ok (.if_icmp .eq 5, 3) := by decide +kernel
theorem dL_law_1604 : decode cL_law 1604 = .ok (.iconst 0, 1) := by decide +kernel
theorem dL_law_1605 : decode cL_law 1605 = .ok (.ireturn, 1) := by decide +kernel
theorem dL_law_1606 : decode cL_law 1606 = .ok (.iload 6, 2) := by decide +kernel
theorem dL_law_1608 : decode cL_law 1608 = .ok (.ifCond .ne 15, 3) := by decide +kernel
theorem dL_law_1611 : decode cL_law 1611 = .ok (.aload_n 3, 1) := by decide +kernel
theorem dL_law_1612 : decode cL_law 1612 = .ok (.iconst 0, 1) := by decide +kernel
theorem dL_law_1613 : decode cL_law 1613 = .ok (.laload, 1) := by decide +kernel
theorem dL_law_1614 : decode cL_law 1614 = .ok (.iload 7, 2) := by decide +kernel
theorem dL_law_1616 : decode cL_law 1616 = .ok (.i2l, 1) := by decide +kernel
theorem dL_law_1617 : decode cL_law 1617 = .ok (.lcmp, 1) := by decide +kernel
theorem dL_law_1618 : decode cL_law 1618 = .ok (.ifCond .eq 5, 3) := by decide +kernel
theorem dL_law_1621 : decode cL_law 1621 = .ok (.iconst 0, 1) := by decide +kernel
theorem dL_law_1622 : decode cL_law 1622 = .ok (.ireturn, 1) := by decide +kernel
theorem dL_law_1623 : decode cL_law 1623 = .ok (.goto 1047, 3) := by decide +kernel
theorem dL_law_1626 : decode cL_law 1626 = .ok (.aload_n 1, 1) := by decide +kernel
theorem dL_law_1627 : decode cL_law 1627 = .ok (.aload_n 0, 1) := by decide +kernel
theorem dL_law_1628 : decode cL_law 1628 = .ok (.iload 5, 2) := by decide +kernel
theorem dL_law_1630 : decode cL_law 1630 = .ok (.iconst 1, 1) := by decide +kernel
theorem dL_law_1631 : decode cL_law 1631 = .ok (.iadd, 1) := by decide +kernel
theorem dL_law_1632 : decode cL_law 1632 = .ok (.iaload, 1) := by decide +kernel
theorem dL_law_1633 : decode cL_law 1633 = .ok (.aload_n 3, 1) := by decide +kernel
theorem dL_law_1634 : decode cL_law 1634 = .ok (.invokestatic 235, 3) := by decide +kernel
theorem dL_law_1637 : decode cL_law 1637 = .ok (.istore 6, 2) := by decide +kernel
theorem dL_law_1639 : decode cL_law 1639 = .ok (.aload_n 2, 1) := by decide +kernel
theorem dL_law_1640 : decode cL_law 1640 = .ok (.aload_n 0, 1) := by decide +kernel
theorem dL_law_1641 : decode cL_law 1641 = .ok (.iload 5, 2) := by decide +kernel
theorem dL_law_1643 : decode cL_law 1643 = .ok (.iconst 1, 1) := by decide +kernel
theorem dL_law_1644 : decode cL_law 1644 = .ok (.iadd, 1) := by decide +kernel
theorem dL_law_1645 : decode cL_law 1645 = .ok (.iaload, 1) := by decide +kernel
theorem dL_law_1646 : decode cL_law 1646 = .ok (.invokevirtual 237, 3) := by decide +kernel
theorem dL_law_1649 : decode cL_law 1649 = .ok (.istore 7, 2) := by decide +kernel
theorem dL_law_1651 : decode cL_law 1651 = .ok (.aload_n 2, 1) := by decide +kernel
theorem dL_law_1652 : decode cL_law 1652 = .ok (.invokevirtual 154, 3) := by decide +kernel
theorem dL_law_1655 : decode cL_law 1655 = .ok (.iload 6, 2) := by decide +kernel
theorem dL_law_1657 : decode cL_law 1657 = .ok (.if_icmp .eq 5, 3) := by decide +kernel
theorem dL_law_1660 : decode cL_law 1660 = .ok (.iconst 0, 1) := by decide +kernel
theorem dL_law_1661 : decode cL_law 1661 = .ok (.ireturn, 1) := by decide +kernel
theorem dL_law_1662 : decode cL_law 1662 = .ok (.iload 6, 2) := by decide +kernel
theorem dL_law_1664 : decode cL_law 1664 = .ok (.ifCond .ne 15, 3) := by decide +kernel
theorem dL_law_1667 : decode cL_law 1667 = .ok (.aload_n 3, 1) := by decide +kernel
theorem dL_law_1668 : decode cL_law 1668 = .ok (.iconst 0, 1) := by decide +kernel
theorem dL_law_1669 : decode cL_law 1669 = .ok (.laload, 1) := by decide +kernel
theorem dL_law_1670 : decode cL_law 1670 = .ok (.iload 7, 2) := by decide +kernel
theorem dL_law_1672 : decode cL_law 1672 = .ok (.i2l, 1) := by decide +kernel
theorem dL_law_1673 : decode cL_law 1673 = .ok (.lcmp, 1) := by decide +kernel
theorem dL_law_1674 : decode cL_law 1674 = .ok (.ifCond .eq 5, 3) := by decide +kernel
theorem dL_law_1677 : decode cL_law 1677 = .ok (.iconst 0, 1) := by decide +kernel
theorem dL_law_1678 : decode cL_law 1678 = .ok (.ireturn, 1) := by decide +kernel
theorem dL_law_1679 : decode cL_law 1679 = .ok (.goto 991, 3) := by decide +kernel
theorem dL_law_1682 : decode cL_law 1682 = .ok (.aload_n 1, 1) := by decide +kernel
theorem dL_law_1683 : decode cL_law 1683 = .ok (.aload_n 0, 1) := by decide +kernel
theorem dL_law_1684 : decode cL_law 1684 = .ok (.iload 5, 2) := by decide +kernel
theorem dL_law_1686 : decode cL_law 1686 = .ok (.iconst 1, 1) := by decide +kernel
theorem dL_law_1687 : decode cL_law 1687 = .ok (.iadd, 1) := by decide +kernel
theorem dL_law_1688 : decode cL_law 1688 = .ok (.iaload, 1) := by decide +kernel
theorem dL_law_1689 : decode cL_law 1689 = .ok (.aload_n 3, 1) := by decide +kernel
theorem dL_law_1690 : decode cL_law 1690 = .ok (.invokestatic 238, 3) := by decide +kernel
theorem dL_law_1693 : decode cL_law 1693 = .ok (.istore 6, 2) := by decide +kernel
theorem dL_law_1695 : decode cL_law 1695 = .ok (.aload_n 2, 1) := by decide +kernel
theorem dL_law_1696 : decode cL_law 1696 = .ok (.aload_n 0, 1) := by decide +kernel
theorem dL_law_1697 : decode cL_law 1697 = .ok (.iload 5, 2) := by decide +kernel
theorem dL_law_1699 : decode cL_law 1699 = .ok (.iconst 1, 1) := by decide +kernel
theorem dL_law_1700 : decode cL_law 1700 = .ok (.iadd, 1) := by decide +kernel
theorem dL_law_1701 : decode cL_law 1701 = .ok (.iaload, 1) := by decide +kernel
theorem dL_law_1702 : decode cL_law 1702 = .ok (.invokevirtual 240, 3) := by decide +kernel
theorem dL_law_1705 : decode cL_law 1705 = .ok (.istore 7, 2) := by decide +kernel
theorem dL_law_1707 : decode cL_law 1707 = .ok (.aload_n 2, 1) := by decide +kernel
theorem dL_law_1708 : decode cL_law 1708 = .ok (.invokevirtual 154, 3) := by decide +kernel
theorem dL_law_1711 : decode cL_law 1711 = .ok (.iload 6, 2) := by decide +kernel
theorem dL_law_1713 : decode cL_law 1713 = .ok (.if_icmp .eq 5, 3) := by decide +kernel
theorem dL_law_1716 : decode cL_law 1716 = .ok (.iconst 0, 1) := by decide +kernel
theorem dL_law_1717 : decode cL_law 1717 = .ok (.ireturn, 1) := by decide +kernel
theorem dL_law_1718 : decode cL_law 1718 = .ok (.iload 6, 2) := by decide +kernel
theorem dL_law_1720 : decode cL_law 1720 = .ok (.ifCond .ne 15, 3) := by decide +kernel
theorem dL_law_1723 : decode cL_law 1723 = .ok (.aload_n 3, 1) := by decide +kernel
theorem dL_law_1724 : decode cL_law 1724 = .ok (.iconst 0, 1) := by decide +kernel
theorem dL_law_1725 : decode cL_law 1725 = .ok (.laload, 1) := by decide +kernel
theorem dL_law_1726 : decode cL_law 1726 = .ok (.iload 7, 2) := by decide +kernel
theorem dL_law_1728 : decode cL_law 1728 = .ok (.i2l, 1) := by decide +kernel
theorem dL_law_1729 : decode cL_law 1729 = .ok (.lcmp, 1) := by decide +kernel
theorem dL_law_1730 : decode cL_law 1730 = .ok (.ifCond .eq 5, 3) := by decide +kernel
theorem dL_law_1733 : decode cL_law 1733 = .ok (.iconst 0, 1) := by decide +kernel
theorem dL_law_1734 : decode cL_law 1734 = .ok (.ireturn, 1) := by decide +kernel
theorem dL_law_1735 : decode cL_law 1735 = .ok (.goto 935, 3) := by decide +kernel
theorem dL_law_1738 : decode cL_law 1738 = .ok (.aload_n 1, 1) := by decide +kernel
theorem dL_law_1739 : decode cL_law 1739 = .ok (.invokevirtual 241, 3) := by decide +kernel
theorem dL_law_1742 : decode cL_law 1742 = .ok (.aload_n 2, 1) := by decide +kernel
theorem dL_law_1743 : decode cL_law 1743 = .ok (.invokevirtual 244, 3) := by decide +kernel
theorem dL_law_1746 : decode cL_law 1746 = .ok (.if_icmp .eq 924, 3) := by decide +kernel
theorem dL_law_1749 : decode cL_law 1749 = .ok (.iconst 0, 1) := by decide +kernel
theorem dL_law_1750 : decode cL_law 1750 = .ok (.ireturn, 1) := by decide +kernel
theorem dL_law_1751 : decode cL_law 1751 = .ok (.aload_n 1, 1) := by decide +kernel
theorem dL_law_1752 : decode cL_law 1752 = .ok (.invokevirtual 245, 3) := by decide +kernel
theorem dL_law_1755 : decode cL_law 1755 = .ok (.aload_n 2, 1) := by decide +kernel
theorem dL_law_1756 : decode cL_law 1756 = .ok (.invokevirtual 248, 3) := by decide +kernel
theorem dL_law_1759 : decode cL_law 1759 = .ok (.if_icmp .eq 911, 3) := by decide +kernel
theorem dL_law_1762 : decode cL_law 1762 = .ok (.iconst 0, 1) := by decide +kernel
theorem dL_law_1763 : decode cL_law 1763 = .ok (.ireturn, 1) := by decide +kernel
theorem dL_law_1764 : decode cL_law 1764 = .ok (.aload_n 1, 1) := by decide +kernel
theorem dL_law_1765 : decode cL_law 1765 = .ok (.aload_n 0, 1) := by decide +kernel
theorem dL_law_1766 : decode cL_law 1766 = .ok (.iload 5, 2) := by decide +kernel
theorem dL_law_1768 : decode cL_law 1768 = .ok (.iconst 1, 1) := by decide +kernel
theorem dL_law_1769 : decode cL_law 1769 = .ok (.iadd, 1) := by decide +kernel
theorem dL_law_1770 : decode cL_law 1770 = .ok (.iaload, 1) := by decide +kernel
theorem dL_law_1771 : decode cL_law 1771 = .ok (.aload_n 3, 1) := by decide +kernel
theorem dL_law_1772 : decode cL_law 1772 = .ok (.invokestatic 249, 3) := by decide +kernel
theorem dL_law_1775 : decode cL_law 1775 = .ok (.istore 6, 2) := by decide +kernel
theorem dL_law_1777 : decode cL_law 1777 = .ok (.aload_n 2, 1) := by decide +kernel
theorem dL_law_1778 : decode cL_law 1778 = .ok (.aload_n 0, 1) := by decide +kernel
theorem dL_law_1779 : decode cL_law 1779 = .ok (.iload 5, 2) := by decide +kernel
theorem dL_law_1781 : decode cL_law 1781 = .ok (.iconst 1, 1) := by decide +kernel
theorem dL_law_1782 : decode cL_law 1782 = .ok (.iadd, 1) := by decide +kernel
theorem dL_law_1783 : decode cL_law 1783 = .ok (.iaload, 1) := by decide +kernel
theorem dL_law_1784 : decode cL_law 1784 = .ok (.invokevirtual 251, 3) := by decide +kernel
theorem dL_law_1787 : decode cL_law 1787 = .ok (.istore 7, 2) := by decide +kernel
theorem dL_law_1789 : decode cL_law 1789 = .ok (.aload_n 2, 1) := by decide +kernel
theorem dL_law_1790 : decode cL_law 1790 = .ok (.invokevirtual 154, 3) := by decide +kernel
theorem dL_law_1793 : decode cL_law 1793 = .ok (.iload 6, 2) := by decide +kernel
theorem dL_law_1795 : decode cL_law 1795 = .ok (.if_icmp .eq 5, 3) := by decide +kernel
theorem dL_law_1798 : decode cL_law 1798 = .ok (.iconst 0, 1) := by decide +kernel
theorem dL_law_1799 : decode cL_law 1799 = .ok (.ireturn, 1) := by decide +kernel
theorem dL_law_1800 : decode cL_law 1800 = .ok (.iload 6, 2) := by decide +kernel
theorem dL_law_1802 : decode cL_law 1802 = .ok (.ifCond .ne 15, 3) := by decide +kernel
theorem dL_law_1805 : decode cL_law 1805 = .ok (.aload_n 3, 1) := by decide +kernel
theorem dL_law_1806 : decode cL_law 1806 = .ok (.iconst 0, 1) := by decide +kernel
theorem dL_law_1807 : decode cL_law 1807 = .ok (.laload, 1) := by decide +kernel
theorem dL_law_1808 : decode cL_law 1808 = .ok (.iload 7, 2) := by decide +kernel
theorem dL_law_1810 : decode cL_law 1810 = .ok (.i2l, 1) := by decide +kernel
theorem dL_law_1811 : decode cL_law 1811 = .ok (.lcmp, 1) := by decide +kernel
theorem dL_law_1812 : decode cL_law 1812 = .ok (.ifCond .eq 5, 3) := by decide +kernel
theorem dL_law_1815 : decode cL_law 1815 = .ok (.iconst 0, 1) := by decide +kernel
theorem dL_law_1816 : decode cL_law 1816 = .ok (.ireturn, 1) := by decide +kernel
theorem dL_law_1817 : decode cL_law 1817 = .ok (.goto 853, 3) := by decide +kernel
theorem dL_law_1820 : decode cL_law 1820 = .ok (.aload_n 1, 1) := by decide +kernel
theorem dL_law_1821 : decode cL_law 1821 = .ok (.aload_n 0, 1) := by decide +kernel
theorem dL_law_1822 : decode cL_law 1822 = .ok (.iload 5, 2) := by decide +kernel
theorem dL_law_1824 : decode cL_law 1824 = .ok (.iconst 1, 1) := by decide +kernel
theorem dL_law_1825 : decode cL_law 1825 = .ok (.iadd, 1) := by decide +kernel
theorem dL_law_1826 : decode cL_law 1826 = .ok (.iaload, 1) := by decide +kernel
theorem dL_law_1827 : decode cL_law 1827 = .ok (.aload_n 3, 1) := by decide +kernel
theorem dL_law_1828 : decode cL_law 1828 = .ok (.invokestatic 252, 3) := by decide +kernel
theorem dL_law_1831 : decode cL_law 1831 = .ok (.istore 6, 2) := by decide +kernel
theorem dL_law_1833 : decode cL_law 1833 = .ok (.aload_n 2, 1) := by decide +kernel
theorem dL_law_1834 : decode cL_law 1834 = .ok (.aload_n 0, 1) := by decide +kernel
theorem dL_law_1835 : decode cL_law 1835 = .ok (.iload 5, 2) := by decide +kernel
theorem dL_law_1837 : decode cL_law 1837 = .ok (.iconst 1, 1) := by decide +kernel
theorem dL_law_1838 : decode cL_law 1838 = .ok (.iadd, 1) := by decide +kernel
theorem dL_law_1839 : decode cL_law 1839 = .ok (.iaload, 1) := by decide +kernel
theorem dL_law_1840 : decode cL_law 1840 = .ok (.invokevirtual 254, 3) := by decide +kernel
theorem dL_law_1843 : decode cL_law 1843 = .ok (.istore 7, 2) := by decide +kernel
theorem dL_law_1845 : decode cL_law 1845 = .ok (.aload_n 2, 1) := by decide +kernel
theorem dL_law_1846 : decode cL_law 1846 = .ok (.invokevirtual 154, 3) := by decide +kernel
theorem dL_law_1849 : decode cL_law 1849 = .ok (.iload 6, 2) := by decide +kernel
theorem dL_law_1851 : decode cL_law 1851 = .ok (.if_icmp .eq 5, 3) := by decide +kernel
theorem dL_law_1854 : decode cL_law 1854 = .ok (.iconst 0, 1) := by decide +kernel
theorem dL_law_1855 : decode cL_law 1855 = .ok (.ireturn, 1) := by decide +kernel
theorem dL_law_1856 : decode cL_law 1856 = .ok (.iload 6, 2) := by decide +kernel
theorem dL_law_1858 : decode cL_law 1858 = .ok (.ifCond .ne 15, 3) := by decide +kernel
theorem dL_law_1861 : decode cL_law 1861 = .ok (.aload_n 3, 1) := by decide +kernel
theorem dL_law_1862 : decode cL_law 1862 = .ok (.iconst 0, 1) := by decide +kernel
theorem dL_law_1863 : decode cL_law 1863 = .ok (.laload, 1) := by decide +kernel
theorem dL_law_1864 : decode cL_law 1864 = .ok (.iload 7, 2) := by decide +kernel
theorem dL_law_1866 : decode cL_law 1866 = .ok (.i2l, 1) := by decide +kernel
theorem dL_law_1867 : decode cL_law 1867 = .ok (.lcmp, 1) := by decide +kernel
theorem dL_law_1868 : decode cL_law 1868 = .ok (.ifCond .eq 5, 3) := by decide +kernel
theorem dL_law_1871 : decode cL_law 1871 = .ok (.iconst 0, 1) := by decide +kernel
theorem dL_law_1872 : decode cL_law 1872 = .ok (.ireturn, 1) := by decide +kernel
theorem dL_law_1873 : decode cL_law 1873 = .ok (.goto 797, 3) := by decide +kernel
theorem dL_law_1876 : decode cL_law 1876 = .ok (.aload_n 1, 1) := by decide +kernel
theorem dL_law_1877 : decode cL_law 1877 = .ok (.aload_n 0, 1) := by decide +kernel
theorem dL_law_1878 : decode cL_law 1878 = .ok (.iload 5, 2) := by decide +kernel
theorem dL_law_1880 : decode cL_law 1880 = .ok (.iconst 1, 1) := by decide +kernel
theorem dL_law_1881 : decode cL_law 1881 = .ok (.iadd, 1) := by decide +kernel
theorem dL_law_1882 : decode cL_law 1882 = .ok (.iaload, 1) := by decide +kernel
theorem dL_law_1883 : decode cL_law 1883 = .ok (.aload_n 0, 1) := by decide +kernel
theorem dL_law_1884 : decode cL_law 1884 = .ok (.iload 5, 2) := by decide +kernel
theorem dL_law_1886 : decode cL_law 1886 = .ok (.iconst 2, 1) := by decide +kernel
theorem dL_law_1887 : decode cL_law 1887 = .ok (.iadd, 1) := by decide +kernel
theorem dL_law_1888 : decode cL_law 1888 = .ok (.iaload, 1) := by decide +kernel
theorem dL_law_1889 : decode cL_law 1889 = .ok (.aload_n 3, 1) := by decide +kernel
theorem dL_law_1890 : decode cL_law 1890 = .ok (.invokestatic 255, 3) := by decide +kernel
theorem dL_law_1893 : decode cL_law 1893 = .ok (.istore 6, 2) := by decide +kernel
theorem dL_law_1895 : decode cL_law 1895 = .ok (.aload_n 2, 1) := by decide +kernel
theorem dL_law_1896 : decode cL_law 1896 = .ok (.aload_n 0, 1) := by decide +kernel
theorem dL_law_1897 : decode cL_law 1897 = .ok (.iload 5, 2) := by decide +kernel
theorem dL_law_1899 : decode cL_law 1899 = .ok (.iconst 1, 1) := by decide +kernel
theorem dL_law_1900 : decode cL_law 1900 = .ok (.iadd, 1) := by decide +kernel
theorem dL_law_1901 : decode cL_law 1901 = .ok (.iaload, 1) := by decide +kernel
theorem dL_law_1902 : decode cL_law 1902 = .ok (.aload_n 0, 1) := by decide +kernel
theorem dL_law_1903 : decode cL_law 1903 = .ok (.iload 5, 2) := by decide +kernel
theorem dL_law_1905 : decode cL_law 1905 = .ok (.iconst 2, 1) := by decide +kernel
theorem dL_law_1906 : decode cL_law 1906 = .ok (.iadd, 1) := by decide +kernel
theorem dL_law_1907 : decode cL_law 1907 = .ok (.iaload, 1) := by decide +kernel
theorem dL_law_1908 : decode cL_law 1908 = .ok (.invokevirtual 257, 3) := by decide +kernel
theorem dL_law_1911 : decode cL_law 1911 = .ok (.istore 7, 2) := by decide +kernel
theorem dL_law_1913 : decode cL_law 1913 = .ok (.aload_n 2, 1) := by decide +kernel
theorem dL_law_1914 : decode cL_law 1914 = .ok (.invokevirtual 154, 3) := by decide +kernel
theorem dL_law_1917 : decode cL_law 1917 = .ok (.iload 6, 2) := by decide +kernel
theorem dL_law_1919 : decode cL_law 1919 = .ok (.if_icmp .eq 5, 3) := by decide +kernel
theorem dL_law_1922 : decode cL_law 1922 = .ok (.iconst 0, 1) := by decide +kernel
theorem dL_law_1923 : decode cL_law 1923 = .ok (.ireturn, 1) := by decide +kernel
theorem dL_law_1924 : decode cL_law 1924 = .ok (.iload 6, 2) := by decide +kernel
theorem dL_law_1926 : decode cL_law 1926 = .ok (.ifCond .ne 15, 3) := by decide +kernel
theorem dL_law_1929 : decode cL_law 1929 = .ok (.aload_n 3, 1) := by decide +kernel
theorem dL_law_1930 : decode cL_law 1930 = .ok (.iconst 0, 1) := by decide +kernel
theorem dL_law_1931 : decode cL_law 1931 = .ok (.laload, 1) := by decide +kernel
theorem dL_law_1932 : decode cL_law 1932 = .ok (.iload 7, 2) := by decide +kernel
theorem dL_law_1934 : decode cL_law 1934 = .ok (.i2l, 1) := by decide +kernel
theorem dL_law_1935 : decode cL_law 1935 = .ok (.lcmp, 1) := by decide +kernel
theorem dL_law_1936 : decode cL_law 1936 = .ok (.ifCond .eq 5, 3) := by decide +kernel
theorem dL_law_1939 : decode cL_law 1939 = .ok (.iconst 0, 1) := by decide +kernel
theorem dL_law_1940 : decode cL_law 1940 = .ok (.ireturn, 1) := by decide +kernel
theorem dL_law_1941 : decode cL_law 1941 = .ok (.goto 729, 3) := by decide +kernel
theorem dL_law_1944 : decode cL_law 1944 = .ok (.aload_n 1, 1) := by decide +kernel
theorem dL_law_1945 : decode cL_law 1945 = .ok (.aload_n 0, 1) := by decide +kernel
theorem dL_law_1946 : decode cL_law 1946 = .ok (.iload 5, 2) := by decide +kernel
theorem dL_law_1948 : decode cL_law 1948 = .ok (.iconst 1, 1) := by decide +kernel
theorem dL_law_1949 : decode cL_law 1949 = .ok (.iadd, 1) := by decide +kernel
theorem dL_law_1950 : decode cL_law 1950 = .ok (.iaload, 1) := by decide +kernel
theorem dL_law_1951 : decode cL_law 1951 = .ok (.aload_n 3, 1) := by decide +kernel
theorem dL_law_1952 : decode cL_law 1952 = .ok (.invokestatic 258, 3) := by decide +kernel
theorem dL_law_1955 : decode cL_law 1955 = .ok (.istore 6, 2) := by decide +kernel
theorem dL_law_1957 : decode cL_law 1957 = .ok (.aload_n 2, 1) := by decide +kernel
theorem dL_law_1958 : decode cL_law 1958 = .ok (.aload_n 0, 1) := by decide +kernel
theorem dL_law_1959 : decode cL_law 1959 = .ok (.iload 5, 2) := by decide +kernel
theorem dL_law_1961 : decode cL_law 1961 = .ok (.iconst 1, 1) := by decide +kernel
theorem dL_law_1962 : decode cL_law 1962 = .ok (.iadd, 1) := by decide +kernel
theorem dL_law_1963 : decode cL_law 1963 = .ok (.iaload, 1) := by decide +kernel
theorem dL_law_1964 : decode cL_law 1964 = .ok (.invokevirtual 260, 3) := by decide +kernel
theorem dL_law_1967 : decode cL_law 1967 = .ok (.istore 7, 2) := by decide +kernel
theorem dL_law_1969 : decode cL_law 1969 = .ok (.aload_n 2, 1) := by decide +kernel
theorem dL_law_1970 : decode cL_law 1970 = .ok (.invokevirtual 154, 3) := by decide +kernel
theorem dL_law_1973 : decode cL_law 1973 = .ok (.iload 6, 2) := by decide +kernel
theorem dL_law_1975 : decode cL_law 1975 = .ok (.if_icmp .eq 5, 3) := by decide +kernel
theorem dL_law_1978 : decode cL_law 1978 = .ok (.iconst 0, 1) := by decide +kernel
theorem dL_law_1979 : decode cL_law 1979 = .ok (.ireturn, 1) := by decide +kernel
theorem dL_law_1980 : decode cL_law 1980 = .ok (.iload 6, 2) := by decide +kernel
theorem dL_law_1982 : decode cL_law 1982 = .ok (.ifCond .ne 15, 3) := by decide +kernel
theorem dL_law_1985 : decode cL_law 1985 = .ok (.aload_n 3, 1) := by decide +kernel
theorem dL_law_1986 : decode cL_law 1986 = .ok (.iconst 0, 1) := by decide +kernel
theorem dL_law_1987 : decode cL_law 1987 = .ok (.laload, 1) := by decide +kernel
theorem dL_law_1988 : decode cL_law 1988 = .ok (.iload 7, 2) := by decide +kernel
theorem dL_law_1990 : decode cL_law 1990 = .ok (.i2l, 1) := by decide +kernel
theorem dL_law_1991 : decode cL_law 1991 = .ok (.lcmp, 1) := by decide +kernel
theorem dL_law_1992 : decode cL_law 1992 = .ok (.ifCond .eq 5, 3) := by decide +kernel
theorem dL_law_1995 : decode cL_law 1995 = .ok (.iconst 0, 1) := by decide +kernel
theorem dL_law_1996 : decode cL_law 1996 = .ok (.ireturn, 1) := by decide +kernel
theorem dL_law_1997 : decode cL_law 1997 = .ok (.goto 673, 3) := by decide +kernel
theorem dL_law_2000 : decode cL_law 2000 = .ok (.aload_n 1, 1) := by decide +kernel
theorem dL_law_2001 : decode cL_law 2001 = .ok (.invokevirtual 261, 3) := by decide +kernel
theorem dL_law_2004 : decode cL_law 2004 = .ok (.aload_n 2, 1) := by decide +kernel
theorem dL_law_2005 : decode cL_law 2005 = .ok (.invokevirtual 264, 3) := by decide +kernel
theorem dL_law_2008 : decode cL_law 2008 = .ok (.if_icmp .eq 662, 3) := by decide +kernel
theorem dL_law_2011 : decode cL_law 2011 = .ok (.iconst 0, 1) := by decide +kernel
theorem dL_law_2012 : decode cL_law 2012 = .ok (.ireturn, 1) := by decide +kernel
theorem dL_law_2013 : decode cL_law 2013 = .ok (.aload_n 1, 1) := by decide +kernel
theorem dL_law_2014 : decode cL_law 2014 = .ok (.invokevirtual 265, 3) := by decide +kernel
theorem dL_law_2017 : decode cL_law 2017 = .ok (.aload_n 2, 1) := by decide +kernel
theorem dL_law_2018 : decode cL_law 2018 = .ok (.invokevirtual 268, 3) := by decide +kernel
theorem dL_law_2021 : decode cL_law 2021 = .ok (.if_icmp .eq 649, 3) := by decide +kernel
theorem dL_law_2024 : decode cL_law 2024 = .ok (.iconst 0, 1) := by decide +kernel
theorem dL_law_2025 : decode cL_law 2025 = .ok (.ireturn, 1) := by decide +kernel
theorem dL_law_2026 : decode cL_law 2026 = .ok (.aload_n 1, 1) := by decide +kernel
theorem dL_law_2027 : decode cL_law 2027 = .ok (.invokevirtual 269, 3) := by decide +kernel
theorem dL_law_2030 : decode cL_law 2030 = .ok (.aload_n 2, 1) := by decide +kernel
theorem dL_law_2031 : decode cL_law 2031 = .ok (.invokevirtual 273, 3) := by decide +kernel
theorem dL_law_2034 : decode cL_law 2034 = .ok (.lcmp, 1) := by decide +kernel
theorem dL_law_2035 : decode cL_law 2035 = .ok (.ifCond .eq 635, 3) := by decide +kernel
theorem dL_law_2038 : decode cL_law 2038 = .ok (.iconst 0, 1) := by decide +kernel
theorem dL_law_2039 : decode cL_law 2039 = .ok (.ireturn, 1) := by decide +kernel
theorem dL_law_2040 : decode cL_law 2040 = .ok (.aload_n 1, 1) := by decide +kernel
theorem dL_law_2041 : decode cL_law 2041 = .ok (.invokevirtual 274, 3) := by decide +kernel
theorem dL_law_2044 : decode cL_law 2044 = .ok (.aload_n 2, 1) := by decide +kernel
theorem dL_law_2045 : decode cL_law 2045 = .ok (.invokevirtual 277, 3) := by decide +kernel
theorem dL_law_2048 : decode cL_law 2048 = .ok (.lcmp, 1) := by decide +kernel
theorem dL_law_2049 : decode cL_law 2049 = .ok (.ifCond .eq 621, 3) := by decide +kernel
theorem dL_law_2052 : decode cL_law 2052 = .ok (.iconst 0, 1) := by decide +kernel
theorem dL_law_2053 : decode cL_law 2053 = .ok (.ireturn, 1) := by decide +kernel
theorem dL_law_2054 : decode cL_law 2054 = .ok (.aload_n 1, 1) := by decide +kernel
theorem dL_law_2055 : decode cL_law 2055 = .ok (.invokevirtual 278, 3) := by decide +kernel
theorem dL_law_2058 : decode cL_law 2058 = .ok (.aload_n 2, 1) := by decide +kernel
theorem dL_law_2059 : decode cL_law 2059 = .ok (.invokevirtual 281, 3) := by decide +kernel
theorem dL_law_2062 : decode cL_law 2062 = .ok (.if_icmp .eq 608, 3) := by decide +kernel
theorem dL_law_2065 : decode cL_law 2065 = .ok (.iconst 0, 1) := by decide +kernel
theorem dL_law_2066 : decode cL_law 2066 = .ok (.ireturn, 1) := by decide +kernel
theorem dL_law_2067 : decode cL_law 2067 = .ok (.aload_n 1, 1) := by decide +kernel
theorem dL_law_2068 : decode cL_law 2068 = .ok (.aload 4, 2) := by decide +kernel
theorem dL_law_2070 : decode cL_law 2070 = .ok (.invokestatic 282, 3) := by decide +kernel
theorem dL_law_2073 : decode cL_law 2073 = .ok (.istore 6, 2) := by decide +kernel
theorem dL_law_2075 : decode cL_law 2075 = .ok (.aload_n 2, 1) := by decide +kernel
theorem dL_law_2076 : decode cL_law 2076 = .ok (.invokevirtual 285, 3) := by decide +kernel
theorem dL_law_2079 : decode cL_law 2079 = .ok (.dstore 7, 2) := by decide +kernel
theorem dL_law_2081 : decode cL_law 2081 = .ok (.aload_n 2, 1) := by decide +kernel
theorem dL_law_2082 : decode cL_law 2082 = .ok (.invokevirtual 154, 3) := by decide +kernel
theorem dL_law_2085 : decode cL_law 2085 = .ok (.iload 6, 2) := by decide +kernel
theorem dL_law_2087 : decode cL_law 2087 = .ok (.if_icmp .eq 5, 3) := by decide +kernel
theorem dL_law_2090 : decode cL_law 2090 = .ok (.iconst 0, 1) := by decide +kernel
theorem dL_law_2091 : decode cL_law 2091 = .ok (.ireturn, 1) := by decide +kernel
theorem dL_law_2092 : decode cL_law 2092 = .ok (.iload 6, 2) := by decide +kernel
theorem dL_law_2094 : decode cL_law 2094 = .ok (.ifCond .ne 35, 3) := by decide +kernel
theorem dL_law_2097 : decode cL_law 2097 = .ok (.aload 4, 2) := by decide +kernel
theorem dL_law_2099 : decode cL_law 2099 = .ok (.iconst 0, 1) := by decide +kernel
theorem dL_law_2100 : decode cL_law 2100 = .ok (.daload, 1) := by decide +kernel
theorem dL_law_2101 : decode cL_law 2101 = .ok (.dload 7, 2) := by decide +kernel
theorem dL_law_2103 : decode cL_law 2103 = .ok (.dcmp .l, 1) := by decide +kernel
theorem dL_law_2104 : decode cL_law 2104 = .ok (.ifCond .eq 25, 3) := by decide +kernel
theorem dL_law_2107 : decode cL_law 2107 = .ok (.aload 4, 2) := by decide +kernel
theorem dL_law_2109 : decode cL_law 2109 = .ok (.iconst 0, 1) := by decide +kernel
theorem dL_law_2110 : decode cL_law 2110 = .ok (.daload, 1) := by decide +kernel
theorem dL_law_2111 : decode cL_law 2111 = .ok (.aload 4, 2) := by decide +kernel
theorem dL_law_2113 : decode cL_law 2113 = .ok (.iconst 0, 1) := by decide +kernel
theorem dL_law_2114 : decode cL_law 2114 = .ok (.daload, 1) := by decide +kernel
theorem dL_law_2115 : decode cL_law 2115 = .ok (.dcmp .l, 1) := by decide +kernel
theorem dL_law_2116 : decode cL_law 2116 = .ok (.ifCond .eq 11, 3) := by decide +kernel
theorem dL_law_2119 : decode cL_law 2119 = .ok (.dload 7, 2) := by decide +kernel
theorem dL_law_2121 : decode cL_law 2121 = .ok (.dload 7, 2) := by decide +kernel
theorem dL_law_2123 : decode cL_law 2123 = .ok (.dcmp .l, 1) := by decide +kernel
theorem dL_law_2124 : decode cL_law 2124 = .ok (.ifCond .ne 5, 3) := by decide +kernel
theorem dL_law_2127 : decode cL_law 2127 = .ok (.iconst 0, 1) := by decide +kernel
theorem dL_law_2128 : decode cL_law 2128 = .ok (.ireturn, 1) := by decide +kernel
theorem dL_law_2129 : decode cL_law 2129 = .ok (.goto 541, 3) := by decide +kernel
theorem dL_law_2132 : decode cL_law 2132 = .ok (.aload_n 1, 1) := by decide +kernel
theorem dL_law_2133 : decode cL_law 2133 = .ok (.aload 4, 2) := by decide +kernel
theorem dL_law_2135 : decode cL_law 2135 = .ok (.invokestatic 286, 3) := by decide +kernel
theorem dL_law_2138 : decode cL_law 2138 = .ok (.istore 6, 2) := by decide +kernel
theorem dL_law_2140 : decode cL_law 2140 = .ok (.aload_n 2, 1) := by decide +kernel
theorem dL_law_2141 : decode cL_law 2141 = .ok (.invokevirtual 288, 3) := by decide +kernel
theorem dL_law_2144 : decode cL_law 2144 = .ok (.fstore 7, 2) := by decide +kernel
theorem dL_law_2146 : decode cL_law 2146 = .ok (.aload_n 2, 1) := by decide +kernel
theorem dL_law_2147 : decode cL_law 2147 = .ok (.invokevirtual 154, 3) := by decide +kernel
theorem dL_law_2150 : decode cL_law 2150 = .ok (.iload 6, 2) := by decide +kernel
theorem dL_law_2152 : decode cL_law 2152 = .ok (.if_icmp .eq 5, 3) := by decide +kernel
theorem dL_law_2155 : decode cL_law 2155 = .ok (.iconst 0, 1) := by decide +kernel
theorem dL_law_2156 : decode cL_law 2156 = .ok (.ireturn, 1) := by decide +kernel
theorem dL_law_2157 : decode cL_law 2157 = .ok (.iload 6, 2) := by decide +kernel
theorem dL_law_2159 : decode cL_law 2159 = .ok (.ifCond .ne 36, 3) := by decide +kernel
theorem dL_law_2162 : decode cL_law 2162 = .ok (.aload 4, 2) := by decide +kernel
theorem dL_law_2164 : decode cL_law 2164 = .ok (.iconst 0, 1) := by decide +kernel
theorem dL_law_2165 : decode cL_law 2165 = .ok (.daload, 1) := by decide +kernel
theorem dL_law_2166 : decode cL_law 2166 = .ok (.fload 7, 2) := by decide +kernel
theorem dL_law_2168 : decode cL_law 2168 = .ok (.f2d, 1) := by decide +kernel
theorem dL_law_2169 : decode cL_law 2169 = .ok (.dcmp .l, 1) := by decide +kernel
theorem dL_law_2170 : decode cL_law 2170 = .ok (.ifCond .eq 25, 3) := by decide +kernel
theorem dL_law_2173 : decode cL_law 2173 = .ok (.aload 4, 2) := by decide +kernel
theorem dL_law_2175 : decode cL_law 2175 = .ok (.iconst 0, 1) := by decide +kernel
theorem dL_law_2176 : decode cL_law 2176 = .ok (.daload, 1) := by decide +kernel
theorem dL_law_2177 : decode cL_law 2177 = .ok (.aload 4, 2) := by decide +kernel
theorem dL_law_2179 : decode cL_law 2179 = .ok (.iconst 0, 1) := by decide +kernel
theorem dL_law_2180 : decode cL_law 2180 = .ok (.daload, 1) := by decide +kernel
theorem dL_law_2181 : decode cL_law 2181 = .ok (.dcmp .l, 1) := by decide +kernel
theorem dL_law_2182 : decode cL_law 2182 = .ok (.ifCond .eq 11, 3) := by decide +kernel
theorem dL_law_2185 : decode cL_law 2185 = .ok (.fload 7, 2) := by decide +kernel
theorem dL_law_2187 : decode cL_law 2187 = .ok (.fload 7, 2) := by decide +kernel
theorem dL_law_2189 : decode cL_law 2189 = .ok (.fcmp .l, 1) := by decide +kernel
theorem dL_law_2190 : decode cL_law 2190 = .ok (.ifCond .ne 5, 3) := by decide +kernel
theorem dL_law_2193 : decode cL_law 2193 = .ok (.iconst 0, 1) := by decide +kernel
theorem dL_law_2194 : decode cL_law 2194 = .ok (.ireturn, 1) := by decide +kernel
theorem dL_law_2195 : decode cL_law 2195 = .ok (.goto 475, 3) := by decide +kernel
theorem dL_law_2198 : decode cL_law 2198 = .ok (.aload_n 1, 1) := by decide +kernel
theorem dL_law_2199 : decode cL_law 2199 = .ok (.aload_n 0, 1) := by decide +kernel
theorem dL_law_2200 : decode cL_law 2200 = .ok (.iload 5, 2) := by decide +kernel
theorem dL_law_2202 : decode cL_law 2202 = .ok (.iconst 1, 1) := by decide +kernel
theorem dL_law_2203 : decode cL_law 2203 = .ok (.iadd, 1) := by decide +kernel
theorem dL_law_2204 : decode cL_law 2204 = .ok (.iaload, 1) := by decide +kernel
theorem dL_law_2205 : decode cL_law 2205 = .ok (.aload_n 3, 1) := by decide +kernel
theorem dL_law_2206 : decode cL_law 2206 = .ok (.invokestatic 289, 3) := by decide +kernel
theorem dL_law_2209 : decode cL_law 2209 = .ok (.istore 6, 2) := by decide +kernel
theorem dL_law_2211 : decode cL_law 2211 = .ok (.aload_n 2, 1) := by decide +kernel
theorem dL_law_2212 : decode cL_law 2212 = .ok (.aload_n 0, 1) := by decide +kernel
theorem dL_law_2213 : decode cL_law 2213 = .ok (.iload 5, 2) := by decide +kernel
theorem dL_law_2215 : decode cL_law 2215 = .ok (.iconst 1, 1) := by decide +kernel
theorem dL_law_2216 : decode cL_law 2216 = .ok (.iadd, 1) := by decide +kernel
theorem dL_law_2217 : decode cL_law 2217 = .ok (.iaload, 1) := by decide +kernel
theorem dL_law_2218 : decode cL_law 2218 = .ok (.invokevirtual 291, 3) := by decide +kernel
theorem dL_law_2221 : decode cL_law 2221 = .ok (.istore 7, 2) := by decide +kernel
theorem dL_law_2223 : decode cL_law 2223 = .ok (.aload_n 2, 1) := by decide +kernel
theorem dL_law_2224 : decode cL_law 2224 = .ok (.invokevirtual 154, 3) := by decide +kernel
theorem dL_law_2227 : decode cL_law 2227 = .ok (.iload 6, 2) := by decide +kernel
theorem dL_law_2229 : decode cL_law 2229 = .ok (.if_icmp .eq 5, 3) := by decide +kernel
theorem dL_law_2232 : decode cL_law 2232 = .ok (.iconst 0, 1) := by decide +kernel
theorem dL_law_2233 : decode cL_law 2233 = .ok (.ireturn, 1) := by decide +kernel
theorem dL_law_2234 : decode cL_law 2234 = .ok (.iload 6, 2) := by decide +kernel
theorem dL_law_2236 : decode cL_law 2236 = .ok (.ifCond .ne 15, 3) := by decide +kernel
theorem dL_law_2239 : decode cL_law 2239 = .ok (.aload_n 3, 1) := by decide +kernel
theorem dL_law_2240 : decode cL_law 2240 = .ok (.iconst 0, 1) := by decide +kernel
theorem dL_law_2241 : decode cL_law 2241 = .ok (.laload, 1) := by decide +kernel
theorem dL_law_2242 : decode cL_law 2242 = .ok (.iload 7, 2) := by decide +kernel
theorem dL_law_2244 : decode cL_law 2244 = .ok (.i2l, 1) := by decide +kernel
theorem dL_law_2245 : decode cL_law 2245 = .ok (.lcmp, 1) := by decide +kernel
theorem dL_law_2246 : decode cL_law 2246 = .ok (.ifCond .eq 5, 3) := by decide +kernel
theorem dL_law_2249 : decode cL_law 2249 = .ok (.iconst 0, 1) := by decide +kernel
theorem dL_law_2250 : decode cL_law 2250 = .ok (.ireturn, 1) := by decide +kernel
theorem dL_law_2251 : decode cL_law 2251 = .ok (.goto 419, 3) := by decide +kernel
theorem dL_law_2254 : decode cL_law 2254 = .ok (.aload_n 1, 1) := by decide +kernel
theorem dL_law_2255 : decode cL_law 2255 = .ok (.aload_n 0, 1) := by decide +kernel
theorem dL_law_2256 : decode cL_law 2256 = .ok (.iload 5, 2) := by decide +kernel
theorem dL_law_2258 : decode cL_law 2258 = .ok (.iconst 1, 1) := by decide +kernel
theorem dL_law_2259 : decode cL_law 2259 = .ok (.iadd, 1) := by decide +kernel
theorem dL_law_2260 : decode cL_law 2260 = .ok (.iaload, 1) := by decide +kernel
theorem dL_law_2261 : decode cL_law 2261 = .ok (.aload_n 3, 1) := by decide +kernel
theorem dL_law_2262 : decode cL_law 2262 = .ok (.invokestatic 292, 3) := by decide +kernel
theorem dL_law_2265 : decode cL_law 2265 = .ok (.istore 6, 2) := by decide +kernel
theorem dL_law_2267 : decode cL_law 2267 = .ok (.aload_n 2, 1) := by decide +kernel
theorem dL_law_2268 : decode cL_law 2268 = .ok (.aload_n 0, 1) := by decide +kernel
theorem dL_law_2269 : decode cL_law 2269 = .ok (.iload 5, 2) := by decide +kernel
theorem dL_law_2271 : decode cL_law 2271 = .ok (.iconst 1, 1) := by decide +kernel
theorem dL_law_2272 : decode cL_law 2272 = .ok (.iadd, 1) := by decide +kernel
theorem dL_law_2273 : decode cL_law 2273 = .ok (.iaload, 1) := by decide +kernel
theorem dL_law_2274 : decode cL_law 2274 = .ok (.invokevirtual 294, 3) := by decide +kernel
theorem dL_law_2277 : decode cL_law 2277 = .ok (.istore 7, 2) := by decide +kernel
theorem dL_law_2279 : decode cL_law 2279 = .ok (.aload_n 2, 1) := by decide +kernel
theorem dL_law_2280 : decode cL_law 2280 = .ok (.invokevirtual 154, 3) := by decide +kernel
theorem dL_law_2283 : decode cL_law 2283 = .ok (.iload 6, 2) := by decide +kernel
theorem dL_law_2285 : decode cL_law 2285 = .ok (.if_icmp .eq 5, 3) := by decide +kernel
theorem dL_law_2288 : decode cL_law 2288 = .ok (.iconst 0, 1) := by decide +kernel
theorem dL_law_2289 : decode cL_law 2289 = .ok (.ireturn, 1) := by decide +kernel
theorem dL_law_2290 : decode cL_law 2290 = .ok (.iload 6, 2) := by decide +kernel
theorem dL_law_2292 : decode cL_law 2292 = .ok (.ifCond .ne 15, 3) := by decide +kernel
theorem dL_law_2295 : decode cL_law 2295 = .ok (.aload_n 3, 1) := by decide +kernel
theorem dL_law_2296 : decode cL_law 2296 = .ok (.iconst 0, 1) := by decide +kernel
theorem dL_law_2297 : decode cL_law 2297 = .ok (.laload, 1) := by decide +kernel
theorem dL_law_2298 : decode cL_law 2298 = .ok (.iload 7, 2) := by decide +kernel
theorem dL_law_2300 : decode cL_law 2300 = .ok (.i2l, 1) := by decide +kernel
theorem dL_law_2301 : decode cL_law 2301 = .ok (.lcmp, 1) := by decide +kernel
theorem dL_law_2302 : decode cL_law 2302 = .ok (.ifCond .eq 5, 3) := by decide +kernel
theorem dL_law_2305 : decode cL_law 2305 = .ok (.iconst 0, 1) := by decide +kernel
theorem dL_law_2306 : decode cL_law 2306 = .ok (.ireturn, 1) := by decide +kernel
theorem dL_law_2307 : decode cL_law 2307 = .ok (.goto 363, 3) := by decide +kernel
theorem dL_law_2310 : decode cL_law 2310 = .ok (.aload_n 1, 1) := by decide +kernel
theorem dL_law_2311 : decode cL_law 2311 = .ok (.aload_n 0, 1) := by decide +kernel
theorem dL_law_2312 : decode cL_law 2312 = .ok (.iload 5, 2) := by decide +kernel
theorem dL_law_2314 : decode cL_law 2314 = .ok (.iconst 1, 1) := by decide +kernel
theorem dL_law_2315 : decode cL_law 2315 = .ok (.iadd, 1) := by decide +kernel
theorem dL_law_2316 : decode cL_law 2316 = .ok (.iaload, 1) := by decide +kernel
theorem dL_law_2317 : decode cL_law 2317 = .ok (.aload_n 3, 1) := by decide +kernel
theorem dL_law_2318 : decode cL_law 2318 = .ok (.invokestatic 295, 3) := by decide +kernel
theorem dL_law_2321 : decode cL_law 2321 = .ok (.istore 6, 2) := by decide +kernel
theorem dL_law_2323 : decode cL_law 2323 = .ok (.aload_n 2, 1) := by decide +kernel
theorem dL_law_2324 : decode cL_law 2324 = .ok (.aload_n 0, 1) := by decide +kernel
theorem dL_law_2325 : decode cL_law 2325 = .ok (.iload 5, 2) := by decide +kernel
theorem dL_law_2327 : decode cL_law 2327 = .ok (.iconst 1, 1) := by decide +kernel
theorem dL_law_2328 : decode cL_law 2328 = .ok (.iadd, 1) := by decide +kernel
theorem dL_law_2329 : decode cL_law 2329 = .ok (.iaload, 1) := by decide +kernel
theorem dL_law_2330 : decode cL_law 2330 = .ok (.invokevirtual 297, 3) := by decide +kernel
theorem dL_law_2333 : decode cL_law 2333 = .ok (.istore 7, 2) := by decide +kernel
theorem dL_law_2335 : decode cL_law 2335 = .ok (.aload_n 2, 1) := by decide +kernel
theorem dL_law_2336 : decode cL_law 2336 = .ok (.invokevirtual 154, 3) := by decide +kernel
theorem dL_law_2339 : decode cL_law 2339 = .ok (.iload 6, 2) := by decide +kernel
theorem dL_law_2341 : decode cL_law 2341 = .ok (.if_icmp .eq 5, 3) := by decide +kernel
theorem dL_law_2344 : decode cL_law 2344 = .ok (.iconst 0, 1) := by decide +kernel
theorem dL_law_2345 : decode cL_law 2345 = .ok (.ireturn, 1) := by decide +kernel
theorem dL_law_2346 : decode cL_law 2346 = .ok (.iload 6, 2) := by decide +kernel
theorem dL_law_2348 : decode cL_law 2348 = .ok (.ifCond .ne 15, 3) := by decide +kernel
theorem dL_law_2351 : decode cL_law 2351 = .ok (.aload_n 3, 1) := by decide +kernel
theorem dL_law_2352 : decode cL_law 2352 = .ok (.iconst 0, 1) := by decide +kernel
theorem dL_law_2353 : decode cL_law 2353 = .ok (.laload, 1) := by decide +kernel
theorem dL_law_2354 : decode cL_law 2354 = .ok (.iload 7, 2) := by decide +kernel
theorem dL_law_2356 : decode cL_law 2356 = .ok (.i2l, 1) := by decide +kernel
theorem dL_law_2357 : decode cL_law 2357 = .ok (.lcmp, 1) := by decide +kernel
theorem dL_law_2358 : decode cL_law 2358 = .ok (.ifCond .eq 5, 3) := by decide +kernel
theorem dL_law_2361 : decode cL_law 2361 = .ok (.iconst 0, 1) := by decide +kernel
theorem dL_law_2362 : decode cL_law 2362 = .ok (.ireturn, 1) := by decide +kernel
theorem dL_law_2363 : decode cL_law 2363 = .ok (.goto 307, 3) := by decide +kernel
theorem dL_law_2366 : decode cL_law 2366 = .ok (.aload_n 1, 1) := by decide +kernel
theorem dL_law_2367 : decode cL_law 2367 = .ok (.invokevirtual 298, 3) := by decide +kernel
theorem dL_law_2370 : decode cL_law 2370 = .ok (.aload_n 2, 1) := by decide +kernel
theorem dL_law_2371 : decode cL_law 2371 = .ok (.invokevirtual 302, 3) := by decide +kernel
theorem dL_law_2374 : decode cL_law 2374 = .ok (.if_icmp .eq 296, 3) := by decide +kernel
theorem dL_law_2377 : decode cL_law 2377 = .ok (.iconst 0, 1) := by decide +kernel
theorem dL_law_2378 : decode cL_law 2378 = .ok (.ireturn, 1) := by decide +kernel
theorem dL_law_2379 : decode cL_law 2379 = .ok (.aload_n 1, 1) := by decide +kernel
theorem dL_law_2380 : decode cL_law 2380 = .ok (.aload_n 0, 1) := by decide +kernel
theorem dL_law_2381 : decode cL_law 2381 = .ok (.iload 5, 2) := by decide +kernel
theorem dL_law_2383 : decode cL_law 2383 = .ok (.iconst 1, 1) := by decide +kernel
theorem dL_law_2384 : decode cL_law 2384 = .ok (.iadd, 1) := by decide +kernel
theorem dL_law_2385 : decode cL_law 2385 = .ok (.iaload, 1) := by decide +kernel
theorem dL_law_2386 : decode cL_law 2386 = .ok (.i2c, 1) := by decide +kernel
theorem dL_law_2387 : decode cL_law 2387 = .ok (.aload_n 3, 1) := by decide +kernel
theorem dL_law_2388 : decode cL_law 2388 = .ok (.invokestatic 303, 3) := by decide +kernel
theorem dL_law_2391 : decode cL_law 2391 = .ok (.istore 6, 2) := by decide +kernel
theorem dL_law_2393 : decode cL_law 2393 = .ok (.aload_n 2, 1) := by decide +kernel
theorem dL_law_2394 : decode cL_law 2394 = .ok (.aload_n 0, 1) := by decide +kernel
theorem dL_law_2395 : decode cL_law 2395 = .ok (.iload 5, 2) := by decide +kernel
theorem dL_law_2397 : decode cL_law 2397 = .ok (.iconst 1, 1) := by decide +kernel
theorem dL_law_2398 : decode cL_law 2398 = .ok (.iadd, 1) := by decide +kernel
theorem dL_law_2399 : decode cL_law 2399 = .ok (.iaload, 1) := by decide +kernel
theorem dL_law_2400 : decode cL_law 2400 = .ok (.i2c, 1) := by decide +kernel
theorem dL_law_2401 : decode cL_law 2401 = .ok (.invokevirtual 306, 3) := by decide +kernel
theorem dL_law_2404 : decode cL_law 2404 = .ok (.istore 7, 2) := by decide +kernel
theorem dL_law_2406 : decode cL_law 2406 = .ok (.aload_n 2, 1) := by decide +kernel
theorem dL_law_2407 : decode cL_law 2407 = .ok (.invokevirtual 154, 3) := by decide +kernel
theorem dL_law_2410 : decode cL_law 2410 = .ok (.iload 6, 2) := by decide +kernel
theorem dL_law_2412 : decode cL_law 2412 = .ok (.if_icmp .eq 5, 3) := by decide +kernel
theorem dL_law_2415 : decode cL_law 2415 = .ok (.iconst 0, 1) := by decide +kernel
theorem dL_law_2416 : decode cL_law 2416 = .ok (.ireturn, 1) := by decide +kernel
theorem dL_law_2417 : decode cL_law 2417 = .ok (.iload 6, 2) := by decide +kernel
theorem dL_law_2419 : decode cL_law 2419 = .ok (.ifCond .ne 15, 3) := by decide +kernel
theorem dL_law_2422 : decode cL_law 2422 = .ok (.aload_n 3, 1) := by decide +kernel
theorem dL_law_2423 : decode cL_law 2423 = .ok (.iconst 0, 1) := by decide +kernel
theorem dL_law_2424 : decode cL_law 2424 = .ok (.laload, 1) := by decide +kernel
theorem dL_law_2425 : decode cL_law 2425 = .ok (.iload 7, 2) := by decide +kernel
theorem dL_law_2427 : decode cL_law 2427 = .ok (.i2l, 1) := by decide +kernel
theorem dL_law_2428 : decode cL_law 2428 = .ok (.lcmp, 1) := by decide +kernel
theorem dL_law_2429 : decode cL_law 2429 = .ok (.ifCond .eq 5, 3) := by decide +kernel
theorem dL_law_2432 : decode cL_law 2432 = .ok (.iconst 0, 1) := by decide +kernel
theorem dL_law_2433 : decode cL_law 2433 = .ok (.ireturn, 1) := by decide +kernel
theorem dL_law_2434 : decode cL_law 2434 = .ok (.goto 236, 3) := by decide +kernel
theorem dL_law_2437 : decode cL_law 2437 = .ok (.aload_n 1, 1) := by decide +kernel
theorem dL_law_2438 : decode cL_law 2438 = .ok (.aload_n 3, 1) := by decide +kernel
theorem dL_law_2439 : decode cL_law 2439 = .ok (.invokestatic 307, 3) := by decide +kernel
theorem dL_law_2442 : decode cL_law 2442 = .ok (.istore 6, 2) := by decide +kernel
theorem dL_law_2444 : decode cL_law 2444 = .ok (.aload_n 2, 1) := by decide +kernel
theorem dL_law_2445 : decode cL_law 2445 = .ok (.invokevirtual 310, 3) := by decide +kernel
theorem dL_law_2448 : decode cL_law 2448 = .ok (.istore 7, 2) := by decide +kernel
theorem dL_law_2450 : decode cL_law 2450 = .ok (.aload_n 2, 1) := by decide +kernel
theorem dL_law_2451 : decode cL_law 2451 = .ok (.invokevirtual 154, 3) := by decide +kernel
theorem dL_law_2454 : decode cL_law 2454 = .ok (.iload 6, 2) := by decide +kernel
theorem dL_law_2456 : decode cL_law 2456 = .ok (.if_icmp .eq 5, 3) := by decide +kernel
theorem dL_law_2459 : decode cL_law 2459 = .ok (.iconst 0, 1) := by decide +kernel
theorem dL_law_2460 : decode cL_law 2460 = .ok (.ireturn, 1) := by decide +kernel
theorem dL_law_2461 : decode cL_law 2461 = .ok (.iload 6, 2) := by decide +kernel
theorem dL_law_2463 : decode cL_law 2463 = .ok (.ifCond .ne 15, 3) := by decide +kernel
theorem dL_law_2466 : decode cL_law 2466 = .ok (.aload_n 3, 1) := by decide +kernel
theorem dL_law_2467 : decode cL_law 2467 = .ok (.iconst 0, 1) := by decide +kernel
theorem dL_law_2468 : decode cL_law 2468 = .ok (.laload, 1) := by decide +kernel
theorem dL_law_2469 : decode cL_law 2469 = .ok (.iload 7, 2) := by decide +kernel
theorem dL_law_2471 : decode cL_law 2471 = .ok (.i2l, 1) := by decide +kernel
theorem dL_law_2472 : decode cL_law 2472 = .ok (.lcmp, 1) := by decide +kernel
theorem dL_law_2473 : decode cL_law 2473 = .ok (.ifCond .eq 5, 3) := by decide +kernel
theorem dL_law_2476 : decode cL_law 2476 = .ok (.iconst 0, 1) := by decide +kernel
theorem dL_law_2477 : decode cL_law 2477 = .ok (.ireturn, 1) := by decide +kernel
theorem dL_law_2478 : decode cL_law 2478 = .ok (.goto 192, 3) := by decide +kernel
theorem dL_law_2481 : decode cL_law 2481 = .ok (.aload_n 1, 1) := by decide +kernel
theorem dL_law_2482 : decode cL_law 2482 = .ok (.aload_n 3, 1) := by decide +kernel
theorem dL_law_2483 : decode cL_law 2483 = .ok (.invokestatic 311, 3) := by decide +kernel
theorem dL_law_2486 : decode cL_law 2486 = .ok (.istore 6, 2) := by decide +kernel
theorem dL_law_2488 : decode cL_law 2488 = .ok (.aload_n 2, 1) := by decide +kernel
theorem dL_law_2489 : decode cL_law 2489 = .ok (.invokevirtual 313, 3) := by decide +kernel
theorem dL_law_2492 : decode cL_law 2492 = .ok (.istore 7, 2) := by decide +kernel
theorem dL_law_2494 : decode cL_law 2494 = .ok (.aload_n 2, 1) := by decide +kernel
theorem dL_law_2495 : decode cL_law 2495 = .ok (.invokevirtual 154, 3) := by decide +kernel
theorem dL_law_2498 : decode cL_law 2498 = .ok (.iload 6, 2) := by decide +kernel
theorem dL_law_2500 : decode cL_law 2500 = .ok (.if_icmp .eq 5, 3) := by decide +kernel
theorem dL_law_2503 : decode cL_law 2503 = .ok (.iconst 0, 1) := by decide +kernel
theorem dL_law_2504 : decode cL_law 2504 = .ok (.ireturn, 1) := by decide +kernel
theorem dL_law_2505 : decode cL_law 2505 = .ok (.iload 6, 2) := by decide +kernel
theorem dL_law_2507 : decode cL_law 2507 = .ok (.ifCond .ne 15, 3) := by decide +kernel
theorem dL_law_2510 : decode cL_law 2510 = .ok (.aload_n 3, 1) := by decide +kernel
theorem dL_law_2511 : decode cL_law 2511 = .ok (.iconst 0, 1) := by decide +kernel
theorem dL_law_2512 : decode cL_law 2512 = .ok (.laload, 1) := by decide +kernel
theorem dL_law_2513 : decode cL_law 2513 = .ok (.iload 7, 2) := by decide +kernel
theorem dL_law_2515 : decode cL_law 2515 = .ok (.i2l, 1) := by decide +kernel
theorem dL_law_2516 : decode cL_law 2516 = .ok (.lcmp, 1) := by decide +kernel
theorem dL_law_2517 : decode cL_law 2517 = .ok (.ifCond .eq 5, 3) := by decide +kernel
theorem dL_law_2520 : decode cL_law 2520 = .ok (.iconst 0, 1) := by decide +kernel
theorem dL_law_2521 : decode cL_law 2521 = .ok (.ireturn, 1) := by decide +kernel
theorem dL_law_2522 : decode cL_law 2522 = .ok (.goto 148, 3) := by decide +kernel
theorem dL_law_2525 : decode cL_law 2525 = .ok (.aload_n 1, 1) := by decide +kernel
theorem dL_law_2526 : decode cL_law 2526 = .ok (.aload_n 3, 1) := by decide +kernel
theorem dL_law_2527 : decode cL_law 2527 = .ok (.invokestatic 314, 3) := by decide +kernel
theorem dL_law_2530 : decode cL_law 2530 = .ok (.istore 6, 2) := by decide +kernel
theorem dL_law_2532 : decode cL_law 2532 = .ok (.aload_n 2, 1) := by decide +kernel
theorem dL_law_2533 : decode cL_law 2533 = .ok (.invokevirtual 316, 3) := by decide +kernel
theorem dL_law_2536 : decode cL_law 2536 = .ok (.istore 7, 2) := by decide +kernel
theorem dL_law_2538 : decode cL_law 2538 = .ok (.aload_n 2, 1) := by decide +kernel
theorem dL_law_2539 : decode cL_law 2539 = .ok (.invokevirtual 154, 3) := by decide +kernel
theorem dL_law_2542 : decode cL_law 2542 = .ok (.iload 6, 2) := by decide +kernel
theorem dL_law_2544 : decode cL_law 2544 = .ok (.if_icmp .eq 5, 3) := by decide +kernel
theorem dL_law_2547 : decode cL_law 2547 = .ok (.iconst 0, 1) := by decide +kernel
theorem dL_law_2548 : decode cL_law 2548 = .ok (.ireturn, 1) := by decide +kernel
theorem dL_law_2549 : decode cL_law 2549 = .ok (.iload 6, 2) := by decide +kernel
theorem dL_law_2551 : decode cL_law 2551 = .ok (.ifCond .ne 15, 3) := by decide +kernel
theorem dL_law_2554 : decode cL_law 2554 = .ok (.aload_n 3, 1) := by decide +kernel
theorem dL_law_2555 : decode cL_law 2555 = .ok (.iconst 0, 1) := by decide +kernel
theorem dL_law_2556 : decode cL_law 2556 = .ok (.laload, 1) := by decide +kernel
theorem dL_law_2557 : decode cL_law 2557 = .ok (.iload 7, 2) := by decide +kernel
theorem dL_law_2559 : decode cL_law 2559 = .ok (.i2l, 1) := by decide +kernel
theorem dL_law_2560 : decode cL_law 2560 = .ok (.lcmp, 1) := by decide +kernel
theorem dL_law_2561 : decode cL_law 2561 = .ok (.ifCond .eq 5, 3) := by decide +kernel
theorem dL_law_2564 : decode cL_law 2564 = .ok (.iconst 0, 1) := by decide +kernel
theorem dL_law_2565 : decode cL_law 2565 = .ok (.ireturn, 1) := by decide +kernel
theorem dL_law_2566 : decode cL_law 2566 = .ok (.goto 104, 3) := by decide +kernel
theorem dL_law_2569 : decode cL_law 2569 = .ok (.aload_n 1, 1) := by decide +kernel
theorem dL_law_2570 : decode cL_law 2570 = .ok (.aload_n 3, 1) := by decide +kernel
theorem dL_law_2571 : decode cL_law 2571 = .ok (.invokestatic 317, 3) := by decide +kernel
theorem dL_law_2574 : decode cL_law 2574 = .ok (.istore 6, 2) := by decide +kernel
theorem dL_law_2576 : decode cL_law 2576 = .ok (.aload_n 2, 1) := by decide +kernel
theorem dL_law_2577 : decode cL_law 2577 = .ok (.invokevirtual 319, 3) := by decide +kernel
theorem dL_law_2580 : decode cL_law 2580 = .ok (.istore 7, 2) := by decide +kernel
theorem dL_law_2582 : decode cL_law 2582 = .ok (.aload_n 2, 1) := by decide +kernel
theorem dL_law_2583 : decode cL_law 2583 = .ok (.invokevirtual 154, 3) := by decide +kernel
theorem dL_law_2586 : decode cL_law 2586 = .ok (.iload 6, 2) := by decide +kernel
theorem dL_law_2588 : decode cL_law 2588 = .ok (.if_icmp .eq 5, 3) := by decide +kernel
theorem dL_law_2591 : decode cL_law 2591 = .ok (.iconst 0, 1) := by decide +kernel
theorem dL_law_2592 : decode cL_law 2592 = .ok (.ireturn, 1) := by decide +kernel
theorem dL_law_2593 : decode cL_law 2593 = .ok (.iload 6, 2) := by decide +kernel
theorem dL_law_2595 : decode cL_law 2595 = .ok (.ifCond .ne 15, 3) := by decide +kernel
theorem dL_law_2598 : decode cL_law 2598 = .ok (.aload_n 3, 1) := by decide +kernel
theorem dL_law_2599 : decode cL_law 2599 = .ok (.iconst 0, 1) := by decide +kernel
theorem dL_law_2600 : decode cL_law 2600 = .ok (.laload, 1) := by decide +kernel
theorem dL_law_2601 : decode cL_law 2601 = .ok (.iload 7, 2) := by decide +kernel
theorem dL_law_2603 : decode cL_law 2603 = .ok (.i2l, 1) := by decide +kernel
theorem dL_law_2604 : decode cL_law 2604 = .ok (.lcmp, 1) := by decide +kernel
theorem dL_law_2605 : decode cL_law 2605 = .ok (.ifCond .eq 5, 3) := by decide +kernel
theorem dL_law_2608 : decode cL_law 2608 = .ok (.iconst 0, 1) := by decide +kernel
theorem dL_law_2609 : decode cL_law 2609 = .ok (.ireturn, 1) := by decide +kernel
theorem dL_law_2610 : decode cL_law 2610 = .ok (.goto 60, 3) := by decide +kernel
theorem dL_law_2613 : decode cL_law 2613 = .ok (.aload_n 1, 1) := by decide +kernel
theorem dL_law_2614 : decode cL_law 2614 = .ok (.invokevirtual 320, 3) := by decide +kernel
theorem dL_law_2617 : decode cL_law 2617 = .ok (.aload_n 2, 1) := by decide +kernel
theorem dL_law_2618 : decode cL_law 2618 = .ok (.invokevirtual 323, 3) := by decide +kernel
theorem dL_law_2621 : decode cL_law 2621 = .ok (.if_icmp .eq 49, 3) := by decide +kernel
theorem dL_law_2624 : decode cL_law 2624 = .ok (.iconst 0, 1) := by decide +kernel
theorem dL_law_2625 : decode cL_law 2625 = .ok (.ireturn, 1) := by decide +kernel
theorem dL_law_2626 : decode cL_law 2626 = .ok (.aload_n 1, 1) := by decide +kernel
theorem dL_law_2627 : decode cL_law 2627 = .ok (.aload_n 3, 1) := by decide +kernel
theorem dL_law_2628 : decode cL_law 2628 = .ok (.invokestatic 324, 3) := by decide +kernel
theorem dL_law_2631 : decode cL_law 2631 = .ok (.istore 6, 2) := by decide +kernel
theorem dL_law_2633 : decode cL_law 2633 = .ok (.aload_n 2, 1) := by decide +kernel
theorem dL_law_2634 : decode cL_law 2634 = .ok (.invokevirtual 326, 3) := by decide +kernel
theorem dL_law_2637 : decode cL_law 2637 = .ok (.istore 7, 2) := by decide +kernel
theorem dL_law_2639 : decode cL_law 2639 = .ok (.aload_n 2, 1) := by decide +kernel
theorem dL_law_2640 : decode cL_law 2640 = .ok (.invokevirtual 154, 3) := by decide +kernel
theorem dL_law_2643 : decode cL_law 2643 = .ok (.iload 6, 2) := by decide +kernel
theorem dL_law_2645 : decode cL_law 2645 = .ok (.if_icmp .eq 5, 3) := by decide +kernel
theorem dL_law_2648 : decode cL_law 2648 = .ok (.iconst 0, 1) := by decide +kernel
theorem dL_law_2649 : decode cL_law 2649 = .ok (.ireturn, 1) := by decide +kernel
theorem dL_law_2650 : decode cL_law 2650 = .ok (.iload 6, 2) := by decide +kernel
theorem dL_law_2652 : decode cL_law 2652 = .ok (.ifCond .ne 15, 3) := by decide +kernel
theorem dL_law_2655 : decode cL_law 2655 = .ok (.aload_n 3, 1) := by decide +kernel
theorem dL_law_2656 : decode cL_law 2656 = .ok (.iconst 0, 1) := by decide +kernel
theorem dL_law_2657 : decode cL_law 2657 = .ok (.laload, 1) := by decide +kernel
theorem dL_law_2658 : decode cL_law 2658 = .ok (.iload 7, 2) := by decide +kernel
theorem dL_law_2660 : decode cL_law 2660 = .ok (.i2l, 1) := by decide +kernel
theorem dL_law_2661 : decode cL_law 2661 = .ok (.lcmp, 1) := by decide +kernel
theorem dL_law_2662 : decode cL_law 2662 = .ok (.ifCond .eq 5, 3) := by decide +kernel
theorem dL_law_2665 : decode cL_law 2665 = .ok (.iconst 0, 1) := by decide +kernel
theorem dL_law_2666 : decode cL_law 2666 = .ok (.ireturn, 1) := by decide +kernel
theorem dL_law_2667 : decode cL_law 2667 = .ok (.goto 3, 3) := by decide +kernel
theorem dL_law_2670 : decode cL_law 2670 = .ok (.iinc 5 6, 3) := by decide +kernel
theorem dL_law_2673 : decode cL_law 2673 = .ok (.goto (-2645), 3) := by decide +kernel
theorem dL_law_2676 : decode cL_law 2676 = .ok (.iconst 1, 1) := by decide +kernel
theorem dL_law_2677 : decode cL_law 2677 = .ok (.ireturn, 1) := by decide +kernel
