theorem dX0_init_0 : decode cX0_init 0 = .ok (.aload_n 0, 1) := by decide +kernel
theorem dX0_init_1 : decode cX0_init 1 = .ok (.invokespecial 3, 3) := by decide +kernel
theorem dX0_init_4 : decode cX0_init 4 = .ok (.aload_n 0, 1) := by decide +kernel
theorem dX0_init_5 : decode cX0_init 5 = .ok (.iconst 5, 1) := by decide +kernel
theorem dX0_init_6 : decode cX0_init 6 = .ok (.newarray .int, 2) := by decide +kernel
theorem dX0_init_8 : decode cX0_init 8 = .ok (.putfield 9, 3) := by decide +kernel
theorem dX0_init_11 : decode cX0_init 11 = .ok (.aload_n 0, 1) := by decide +kernel
theorem dX0_init_12 : decode cX0_init 12 = .ok (.iconst 5, 1) := by decide +kernel
theorem dX0_init_13 : decode cX0_init 13 = .ok (.newarray .int, 2) := by decide +kernel
theorem dX0_init_15 : decode cX0_init 15 = .ok (.putfield 15, 3) := by decide +kernel
theorem dX0_init_18 : decode cX0_init 18 = .ok (.aload_n 0, 1) := by decide +kernel
theorem dX0_init_19 : decode cX0_init 19 = .ok (.iconst 5, 1) := by decide +kernel
theorem dX0_init_20 : decode cX0_init 20 = .ok (.newarray .int, 2) := by decide +kernel
theorem dX0_init_22 : decode cX0_init 22 = .ok (.putfield 18, 3) := by decide +kernel
theorem dX0_init_25 : decode cX0_init 25 = .ok (.aload_n 0, 1) := by decide +kernel
theorem dX0_init_26 : decode cX0_init 26 = .ok (.iconst 5, 1) := by decide +kernel
theorem dX0_init_27 : decode cX0_init 27 = .ok (.bipush 24, 2) := by decide +kernel
theorem dX0_init_29 : decode cX0_init 29 = .ok (.multianewarray 21 2, 4) := by decide +kernel
theorem dX0_init_33 : decode cX0_init 33 = .ok (.putfield 23, 3) := by decide +kernel
theorem dX0_init_36 : decode cX0_init 36 = .ok (.return_, 1) := by decide +kernel
theorem dX0_copyFrom_0 : decode cX0_copyFrom 0 = .ok (.aload_n 1, 1) := by decide +kernel
theorem dX0_copyFrom_1 : decode cX0_copyFrom 1 = .ok (.getfield 9, 3) := by decide +kernel
theorem dX0_copyFrom_4 : decode cX0_copyFrom 4 = .ok (.iconst 0, 1) := by decide +kernel
theorem dX0_copyFrom_5 : decode cX0_copyFrom 5 = .ok (.aload_n 0, 1) := by decide +kernel
theorem dX0_copyFrom_6 : decode cX0_copyFrom 6 = .ok (.getfield 9, 3) := by decide +kernel
theorem dX0_copyFrom_9 : decode cX0_copyFrom 9 = .ok (.iconst 0, 1) := by decide +kernel
theorem dX0_copyFrom_10 : decode cX0_copyFrom 10 = .ok (.iconst 5, 1) := by decide +kernel
theorem dX0_copyFrom_11 : decode cX0_copyFrom 11 = .ok (.invokestatic 26, 3) := by decide +kernel
theorem dX0_copyFrom_14 : decode cX0_copyFrom 14 = .ok (.aload_n 1, 1) := by decide +kernel
theorem dX0_copyFrom_15 : decode cX0_copyFrom 15 = .ok (.getfield 15, 3) := by decide +kernel
theorem dX0_copyFrom_18 : decode cX0_copyFrom 18 = .ok (.iconst 0, 1) := by decide +kernel
theorem dX0_copyFrom_19 : decode cX0_copyFrom 19 = .ok (.aload_n 0, 1) := by decide +kernel
theorem dX0_copyFrom_20 : decode cX0_copyFrom 20 = .ok (.getfield 15, 3) := by decide +kernel
theorem dX0_copyFrom_23 : decode cX0_copyFrom 23 = .ok (.iconst 0, 1) := by decide +kernel
theorem dX0_copyFrom_24 : decode cX0_copyFrom 24 = .ok (.iconst 5, 1) := by decide +kernel
theorem dX0_copyFrom_25 : decode cX0_copyFrom 25 = .ok (.invokestatic 26, 3) := by decide +kernel
theorem dX0_copyFrom_28 : decode cX0_copyFrom 28 = .ok (.aload_n 1, 1) := by decide +kernel
theorem dX0_copyFrom_29 : decode cX0_copyFrom 29 = .ok (.getfield 18, 3) := by decide +kernel
theorem dX0_copyFrom_32 : decode cX0_copyFrom 32 = .ok (.iconst 0, 1) := by decide +kernel
theorem dX0_copyFrom_33 : decode cX0_copyFrom 33 = .ok (.aload_n 0, 1) := by decide +kernel
theorem dX0_copyFrom_34 : decode cX0_copyFrom 34 = .ok (.getfield 18, 3) := by decide +kernel
theorem dX0_copyFrom_37 : decode cX0_copyFrom 37 = .ok (.iconst 0, 1) := by decide +kernel
theorem dX0_copyFrom_38 : decode cX0_copyFrom 38 = .ok (.iconst 5, 1) := by decide +kernel
theorem dX0_copyFrom_39 : decode cX0_copyFrom 39 = .ok (.invokestatic 26, 3) := by decide +kernel
theorem dX0_copyFrom_42 : decode cX0_copyFrom 42 = .ok (.iconst 0, 1) := by decide +kernel
theorem dX0_copyFrom_43 : decode cX0_copyFrom 43 = .ok (.istore_n 2, 1) := by decide +kernel
theorem dX0_copyFrom_44 : decode cX0_copyFrom 44 = .ok (.iload_n 2, 1) := by decide +kernel
theorem dX0_copyFrom_45 : decode cX0_copyFrom 45 = .ok (.iconst 5, 1) := by decide +kernel
theorem dX0_copyFrom_46 : decode cX0_copyFrom 46 = .ok (.if_icmp .ge 28, 3) := by decide +kernel
theorem dX0_copyFrom_49 : decode cX0_copyFrom 49 = .ok (.aload_n 1, 1) := by decide +kernel
theorem dX0_copyFrom_50 : decode cX0_copyFrom 50 = .ok (.getfield 23, 3) := by decide +kernel
theorem dX0_copyFrom_53 : decode cX0_copyFrom 53 = .ok (.iload_n 2, 1) := by decide +kernel
theorem dX0_copyFrom_54 : decode cX0_copyFrom 54 = .ok (.aaload, 1) := by decide +kernel
theorem dX0_copyFrom_55 : decode cX0_copyFrom 55 = .ok (.iconst 0, 1) := by decide +kernel
theorem dX0_copyFrom_56 : decode cX0_copyFrom 56 = .ok (.aload_n 0, 1) := by decide +kernel
theorem dX0_copyFrom_57 : decode cX0_copyFrom 57 = .ok (.getfield 23, 3) := by decide +kernel
theorem dX0_copyFrom_60 : decode cX0_copyFrom 60 = .ok (.iload_n 2, 1) := by decide +kernel
theorem dX0_copyFrom_61 : decode cX0_copyFrom 61 = .ok (.aaload, 1) := by decide +kernel
theorem dX0_copyFrom_62 : decode cX0_copyFrom 62 = .ok (.iconst 0, 1) := by decide +kernel
theorem dX0_copyFrom_63 : decode cX0_copyFrom 63 = .ok (.bipush 24, 2) := by decide +kernel
theorem dX0_copyFrom_65 : decode cX0_copyFrom 65 = .ok (.invokestatic 26, 3) := by decide +kernel
theorem dX0_copyFrom_68 : decode cX0_copyFrom 68 = .ok (.iinc 2 1, 3) := by decide +kernel
theorem dX0_copyFrom_71 : decode cX0_copyFrom 71 = .ok (.goto (-27), 3) := by decide +kernel
theorem dX0_copyFrom_74 : decode cX0_copyFrom 74 = .ok (.aload_n 0, 1) := by decide +kernel
theorem dX0_copyFrom_75 : decode cX0_copyFrom 75 = .ok (.aload_n 1, 1) := by decide +kernel
theorem dX0_copyFrom_76 : decode cX0_copyFrom 76 = .ok (.getfield 32, 3) := by decide +kernel
theorem dX0_copyFrom_79 : decode cX0_copyFrom 79 = .ok (.putfield 32, 3) := by decide +kernel
theorem dX0_copyFrom_82 : decode cX0_copyFrom 82 = .ok (.aload_n 0, 1) := by decide +kernel
theorem dX0_copyFrom_83 : decode cX0_copyFrom 83 = .ok (.aload_n 1, 1) := by decide +kernel
theorem dX0_copyFrom_84 : decode cX0_copyFrom 84 = .ok (.getfield 36, 3) := by decide +kernel
theorem dX0_copyFrom_87 : decode cX0_copyFrom 87 = .ok (.putfield 36, 3) := by decide +kernel
theorem dX0_copyFrom_90 : decode cX0_copyFrom 90 = .ok (.return_, 1) := by decide +kernel
theorem dX0_readClauses_0 : decode cX0_readClauses 0 = .ok (.aload_n 0, 1) := by decide +kernel
theorem dX0_readClauses_1 : decode cX0_readClauses 1 = .ok (.iconst 0, 1) := by decide +kernel
theorem dX0_readClauses_2 : decode cX0_readClauses 2 = .ok (.putfield 32, 3) := by decide +kernel
theorem dX0_readClauses_5 : decode cX0_readClauses 5 = .ok (.aload_n 0, 1) := by decide +kernel
theorem dX0_readClauses_6 : decode cX0_readClauses 6 = .ok (.iconst 0, 1) := by decide +kernel
theorem dX0_readClauses_7 : decode cX0_readClauses 7 = .ok (.putfield 36, 3) := by decide +kernel
theorem dX0_readClauses_10 : decode cX0_readClauses 10 = .ok (.aload_n 2, 1) := by decide +kernel
theorem dX0_readClauses_11 : decode cX0_readClauses 11 = .ok (.invokevirtual 39, 3) := by decide +kernel
theorem dX0_readClauses_14 : decode cX0_readClauses 14 = .ok (.iconst 0, 1) := by decide +kernel
theorem dX0_readClauses_15 : decode cX0_readClauses 15 = .ok (.istore_n 3, 1) := by decide +kernel
theorem dX0_readClauses_16 : decode cX0_readClauses 16 = .ok (.iload_n 3, 1) := by decide +kernel
theorem dX0_readClauses_17 : decode cX0_readClauses 17 = .ok (.bipush 60, 2) := by decide +kernel
theorem dX0_readClauses_19 : decode cX0_readClauses 19 = .ok (.if_icmp .gt 92, 3) := by decide +kernel
theorem dX0_readClauses_22 : decode cX0_readClauses 22 = .ok (.aload_n 1, 1) := by decide +kernel
theorem dX0_readClauses_23 : decode cX0_readClauses 23 = .ok (.invokevirtual 44, 3) := by decide +kernel
theorem dX0_readClauses_26 : decode cX0_readClauses 26 = .ok (.ifCond .eq 5, 3) := by decide +kernel
theorem dX0_readClauses_29 : decode cX0_readClauses 29 = .ok (.iconst 1, 1) := by decide +kernel
theorem dX0_readClauses_30 : decode cX0_readClauses 30 = .ok (.ireturn, 1) := by decide +kernel
theorem dX0_readClauses_31 : decode cX0_readClauses 31 = .ok (.aload_n 1, 1) := by decide +kernel
theorem dX0_readClauses_32 : decode cX0_readClauses 32 = .ok (.invokevirtual 50, 3) := by decide +kernel
theorem dX0_readClauses_35 : decode cX0_readClauses 35 = .ok (.aload_n 1, 1) := by decide +kernel
theorem dX0_readClauses_36 : decode cX0_readClauses 36 = .ok (.invokestatic 53, 3) := by decide +kernel
theorem dX0_readClauses_39 : decode cX0_readClauses 39 = .ok (.istore 4, 2) := by decide +kernel
theorem dX0_readClauses_41 : decode cX0_readClauses 41 = .ok (.iload 4, 2) := by decide +kernel
theorem dX0_readClauses_43 : decode cX0_readClauses 43 = .ok (.iconst (-1), 1) := by decide +kernel
theorem dX0_readClauses_44 : decode cX0_readClauses 44 = .ok (.if_icmp .ne 13, 3) := by decide +kernel
theorem dX0_readClauses_47 : decode cX0_readClauses 47 = .ok (.aload_n 1, 1) := by decide +kernel
theorem dX0_readClauses_48 : decode cX0_readClauses 48 = .ok (.iconst 1, 1) := by decide +kernel
theorem dX0_readClauses_49 : decode cX0_readClauses 49 = .ok (.aload_n 1, 1) := by decide +kernel
theorem dX0_readClauses_50 : decode cX0_readClauses 50 = .ok (.getfield 57, 3) := by decide +kernel
theorem dX0_readClauses_53 : decode cX0_readClauses 53 = .ok (.invokevirtual 60, 3) := by decide +kernel
theorem dX0_readClauses_56 : decode cX0_readClauses 56 = .ok (.ireturn, 1) := by decide +kernel
theorem dX0_readClauses_57 : decode cX0_readClauses 57 = .ok (.iload_n 3, 1) := by decide +kernel
theorem dX0_readClauses_58 : decode cX0_readClauses 58 = .ok (.bipush 60, 2) := by decide +kernel
theorem dX0_readClauses_60 : decode cX0_readClauses 60 = .ok (.if_icmp .eq 13, 3) := by decide +kernel
theorem dX0_readClauses_63 : decode cX0_readClauses 63 = .ok (.aload_n 0, 1) := by decide +kernel
theorem dX0_readClauses_64 : decode cX0_readClauses 64 = .ok (.iload 4, 2) := by decide +kernel
theorem dX0_readClauses_66 : decode cX0_readClauses 66 = .ok (.aload_n 2, 1) := by decide +kernel
theorem dX0_readClauses_67 : decode cX0_readClauses 67 = .ok (.invokevirtual 64, 3) := by decide +kernel
theorem dX0_readClauses_70 : decode cX0_readClauses 70 = .ok (.ifCond .eq 13, 3) := by decide +kernel
theorem dX0_readClauses_73 : decode cX0_readClauses 73 = .ok (.aload_n 1, 1) := by decide +kernel
theorem dX0_readClauses_74 : decode cX0_readClauses 74 = .ok (.iconst 3, 1) := by decide +kernel
theorem dX0_readClauses_75 : decode cX0_readClauses 75 = .ok (.aload_n 1, 1) := by decide +kernel
theorem dX0_readClauses_76 : decode cX0_readClauses 76 = .ok (.getfield 57, 3) := by decide +kernel
theorem dX0_readClauses_79 : decode cX0_readClauses 79 = .ok (.invokevirtual 60, 3) := by decide +kernel
theorem dX0_readClauses_82 : decode cX0_readClauses 82 = .ok (.ireturn, 1) := by decide +kernel
theorem dX0_readClauses_83 : decode cX0_readClauses 83 = .ok (.aload_n 0, 1) := by decide +kernel
theorem dX0_readClauses_84 : decode cX0_readClauses 84 = .ok (.iload 4, 2) := by decide +kernel
theorem dX0_readClauses_86 : decode cX0_readClauses 86 = .ok (.aload_n 1, 1) := by decide +kernel
theorem dX0_readClauses_87 : decode cX0_readClauses 87 = .ok (.aload_n 2, 1) := by decide +kernel
theorem dX0_readClauses_88 : decode cX0_readClauses 88 = .ok (.invokevirtual 68, 3) := by decide +kernel
theorem dX0_readClauses_91 : decode cX0_readClauses 91 = .ok (.ifCond .eq 12, 3) := by decide +kernel
theorem dX0_readClauses_94 : decode cX0_readClauses 94 = .ok (.aload_n 1, 1) := by decide +kernel
theorem dX0_readClauses_95 : decode cX0_readClauses 95 = .ok (.bipush 59, 2) := by decide +kernel
theorem dX0_readClauses_97 : decode cX0_readClauses 97 = .ok (.invokevirtual 72, 3) := by decide +kernel
theorem dX0_readClauses_100 : decode cX0_readClauses 100 = .ok (.ifCond .ne 5, 3) := by decide +kernel
theorem dX0_readClauses_103 : decode cX0_readClauses 103 = .ok (.iconst 0, 1) := by decide +kernel
theorem dX0_readClauses_104 : decode cX0_readClauses 104 = .ok (.ireturn, 1) := by decide +kernel
theorem dX0_readClauses_105 : decode cX0_readClauses 105 = .ok (.iinc 3 1, 3) := by decide +kernel
theorem dX0_readClauses_108 : decode cX0_readClauses 108 = .ok (.goto (-92), 3) := by decide +kernel
theorem dX0_readClauses_111 : decode cX0_readClauses 111 = .ok (.iconst 0, 1) := by decide +kernel
theorem dX0_readClauses_112 : decode cX0_readClauses 112 = .ok (.ireturn, 1) := by decide +kernel
theorem dX0_clauseKind_0 : decode cX0_clauseKind 0 = .ok (.aload_n 0, 1) := by decide +kernel
theorem dX0_clauseKind_1 : decode cX0_clauseKind 1 = .ok (.ldc 76, 2) := by decide +kernel
theorem dX0_clauseKind_3 : decode cX0_clauseKind 3 = .ok (.invokevirtual 78, 3) := by decide +kernel
theorem dX0_clauseKind_6 : decode cX0_clauseKind 6 = .ok (.ifCond .eq 5, 3) := by decide +kernel
theorem dX0_clauseKind_9 : decode cX0_clauseKind 9 = .ok (.iconst 0, 1) := by decide +kernel
theorem dX0_clauseKind_10 : decode cX0_clauseKind 10 = .ok (.ireturn, 1) := by decide +kernel
theorem dX0_clauseKind_11 : decode cX0_clauseKind 11 = .ok (.aload_n 0, 1) := by decide +kernel
theorem dX0_clauseKind_12 : decode cX0_clauseKind 12 = .ok (.ldc 82, 2) := by decide +kernel
theorem dX0_clauseKind_14 : decode cX0_clauseKind 14 = .ok (.invokevirtual 78, 3) := by decide +kernel
theorem dX0_clauseKind_17 : decode cX0_clauseKind 17 = .ok (.ifCond .eq 5, 3) := by decide +kernel
theorem dX0_clauseKind_20 : decode cX0_clauseKind 20 = .ok (.iconst 1, 1) := by decide +kernel
theorem dX0_clauseKind_21 : decode cX0_clauseKind 21 = .ok (.ireturn, 1) := by decide +kernel
theorem dX0_clauseKind_22 : decode cX0_clauseKind 22 = .ok (.aload_n 0, 1) := by decide +kernel
theorem dX0_clauseKind_23 : decode cX0_clauseKind 23 = .ok (.ldc 84, 2) := by decide +kernel
theorem dX0_clauseKind_25 : decode cX0_clauseKind 25 = .ok (.invokevirtual 78, 3) := by decide +kernel
theorem dX0_clauseKind_28 : decode cX0_clauseKind 28 = .ok (.ifCond .eq 5, 3) := by decide +kernel
theorem dX0_clauseKind_31 : decode cX0_clauseKind 31 = .ok (.iconst 2, 1) := by decide +kernel
theorem dX0_clauseKind_32 : decode cX0_clauseKind 32 = .ok (.ireturn, 1) := by decide +kernel
theorem dX0_clauseKind_33 : decode cX0_clauseKind 33 = .ok (.aload_n 0, 1) := by decide +kernel
theorem dX0_clauseKind_34 : decode cX0_clauseKind 34 = .ok (.ldc 86, 2) := by decide +kernel
theorem dX0_clauseKind_36 : decode cX0_clauseKind 36 = .ok (.invokevirtual 78, 3) := by decide +kernel
theorem dX0_clauseKind_39 : decode cX0_clauseKind 39 = .ok (.ifCond .eq 7, 3) := by decide +kernel
theorem dX0_clauseKind_42 : decode cX0_clauseKind 42 = .ok (.iconst 3, 1) := by decide +kernel
theorem dX0_clauseKind_43 : decode cX0_clauseKind 43 = .ok (.goto 4, 3) := by decide +kernel
theorem dX0_clauseKind_46 : decode cX0_clauseKind 46 = .ok (.iconst (-1), 1) := by decide +kernel
theorem dX0_clauseKind_47 : decode cX0_clauseKind 47 = .ok (.ireturn, 1) := by decide +kernel
theorem dX0_isFull_0 : decode cX0_isFull 0 = .ok (.iload_n 1, 1) := by decide +kernel
theorem dX0_isFull_1 : decode cX0_isFull 1 = .ok (.tableswitch 71 0 2 #[27, 42, 56], 27) := by decide +kernel
theorem dX0_isFull_28 : decode cX0_isFull 28 = .ok (.aload_n 2, 1) := by decide +kernel
theorem dX0_isFull_29 : decode cX0_isFull 29 = .ok (.getfield 88, 3) := by decide +kernel
theorem dX0_isFull_32 : decode cX0_isFull 32 = .ok (.bipush 8, 2) := by decide +kernel
theorem dX0_isFull_34 : decode cX0_isFull 34 = .ok (.if_icmp .lt 7, 3) := by decide +kernel
theorem dX0_isFull_37 : decode cX0_isFull 37 = .ok (.iconst 1, 1) := by decide +kernel
theorem dX0_isFull_38 : decode cX0_isFull 38 = .ok (.goto 4, 3) := by decide +kernel
theorem dX0_isFull_41 : decode cX0_isFull 41 = .ok (.iconst 0, 1) := by decide +kernel
theorem dX0_isFull_42 : decode cX0_isFull 42 = .ok (.ireturn, 1) := by decide +kernel
theorem dX0_isFull_43 : decode cX0_isFull 43 = .ok (.aload_n 0, 1) := by decide +kernel
theorem dX0_isFull_44 : decode cX0_isFull 44 = .ok (.getfield 32, 3) := by decide +kernel
theorem dX0_isFull_47 : decode cX0_isFull 47 = .ok (.iconst 5, 1) := by decide +kernel
theorem dX0_isFull_48 : decode cX0_isFull 48 = .ok (.if_icmp .lt 7, 3) := by decide +kernel
theorem dX0_isFull_51 : decode cX0_isFull 51 = .ok (.iconst 1, 1) := by decide +kernel
theorem dX0_isFull_52 : decode cX0_isFull 52 = .ok (.goto 4, 3) := by decide +kernel
theorem dX0_isFull_55 : decode cX0_isFull 55 = .ok (.iconst 0, 1) := by decide +kernel
theorem dX0_isFull_56 : decode cX0_isFull 56 = .ok (.ireturn, 1) := by decide +kernel
theorem dX0_isFull_57 : decode cX0_isFull 57 = .ok (.aload_n 0, 1) := by decide +kernel
theorem dX0_isFull_58 : decode cX0_isFull 58 = .ok (.getfield 36, 3) := by decide +kernel
theorem dX0_isFull_61 : decode cX0_isFull 61 = .ok (.bipush 24, 2) := by decide +kernel
theorem dX0_isFull_63 : decode cX0_isFull 63 = .ok (.if_icmp .lt 7, 3) := by decide +kernel
theorem dX0_isFull_66 : decode cX0_isFull 66 = .ok (.iconst 1, 1) := by decide +kernel
theorem dX0_isFull_67 : decode cX0_isFull 67 = .ok (.goto 4, 3) := by decide +kernel
theorem dX0_isFull_70 : decode cX0_isFull 70 = .ok (.iconst 0, 1) := by decide +kernel
theorem dX0_isFull_71 : decode cX0_isFull 71 = .ok (.ireturn, 1) := by decide +kernel
theorem dX0_isFull_72 : decode cX0_isFull 72 = .ok (.iconst 0, 1) := by decide +kernel
theorem dX0_isFull_73 : decode cX0_isFull 73 = .ok (.ireturn, 1) := by decide +kernel
theorem dX0_readClause_0 : decode cX0_readClause 0 = .ok (.aload_n 2, 1) := by decide +kernel
theorem dX0_readClause_1 : decode cX0_readClause 1 = .ok (.aload_n 0, 1) := by decide +kernel
theorem dX0_readClause_2 : decode cX0_readClause 2 = .ok (.iload_n 1, 1) := by decide +kernel
theorem dX0_readClause_3 : decode cX0_readClause 3 = .ok (.invokevirtual 91, 3) := by decide +kernel
theorem dX0_readClause_6 : decode cX0_readClause 6 = .ok (.invokevirtual 95, 3) := by decide +kernel
theorem dX0_readClause_9 : decode cX0_readClause 9 = .ok (.istore 4, 2) := by decide +kernel
theorem dX0_readClause_11 : decode cX0_readClause 11 = .ok (.iload 4, 2) := by decide +kernel
theorem dX0_readClause_13 : decode cX0_readClause 13 = .ok (.iconst (-1), 1) := by decide +kernel
theorem dX0_readClause_14 : decode cX0_readClause 14 = .ok (.if_icmp .ne 5, 3) := by decide +kernel
theorem dX0_readClause_17 : decode cX0_readClause 17 = .ok (.iconst 0, 1) := by decide +kernel
theorem dX0_readClause_18 : decode cX0_readClause 18 = .ok (.ireturn, 1) := by decide +kernel
theorem dX0_readClause_19 : decode cX0_readClause 19 = .ok (.iload_n 1, 1) := by decide +kernel
theorem dX0_readClause_20 : decode cX0_readClause 20 = .ok (.iconst 3, 1) := by decide +kernel
theorem dX0_readClause_21 : decode cX0_readClause 21 = .ok (.if_icmp .ne 11, 3) := by decide +kernel
theorem dX0_readClause_24 : decode cX0_readClause 24 = .ok (.aload_n 3, 1) := by decide +kernel
theorem dX0_readClause_25 : decode cX0_readClause 25 = .ok (.iload 4, 2) := by decide +kernel
theorem dX0_readClause_27 : decode cX0_readClause 27 = .ok (.putfield 98, 3) := by decide +kernel
theorem dX0_readClause_30 : decode cX0_readClause 30 = .ok (.iconst 1, 1) := by decide +kernel
theorem dX0_readClause_31 : decode cX0_readClause 31 = .ok (.ireturn, 1) := by decide +kernel
theorem dX0_readClause_32 : decode cX0_readClause 32 = .ok (.aload_n 2, 1) := by decide +kernel
theorem dX0_readClause_33 : decode cX0_readClause 33 = .ok (.iload_n 1, 1) := by decide +kernel
theorem dX0_readClause_34 : decode cX0_readClause 34 = .ok (.invokestatic 101, 3) := by decide +kernel
theorem dX0_readClause_37 : decode cX0_readClause 37 = .ok (.invokevirtual 95, 3) := by decide +kernel
theorem dX0_readClause_40 : decode cX0_readClause 40 = .ok (.istore 5, 2) := by decide +kernel
theorem dX0_readClause_42 : decode cX0_readClause 42 = .ok (.iload 5, 2) := by decide +kernel
theorem dX0_readClause_44 : decode cX0_readClause 44 = .ok (.iconst (-1), 1) := by decide +kernel
theorem dX0_readClause_45 : decode cX0_readClause 45 = .ok (.if_icmp .ne 5, 3) := by decide +kernel
theorem dX0_readClause_48 : decode cX0_readClause 48 = .ok (.iconst 0, 1) := by decide +kernel
theorem dX0_readClause_49 : decode cX0_readClause 49 = .ok (.ireturn, 1) := by decide +kernel
theorem dX0_readClause_50 : decode cX0_readClause 50 = .ok (.iload_n 1, 1) := by decide +kernel
theorem dX0_readClause_51 : decode cX0_readClause 51 = .ok (.lookupswitch 43 #[(0, 25), (1, 34)], 25) := by decide +kernel
theorem dX0_readClause_76 : decode cX0_readClause 76 = .ok (.aload_n 3, 1) := by decide +kernel
theorem dX0_readClause_77 : decode cX0_readClause 77 = .ok (.iload 4, 2) := by decide +kernel
theorem dX0_readClause_79 : decode cX0_readClause 79 = .ok (.iload 5, 2) := by decide +kernel
theorem dX0_readClause_81 : decode cX0_readClause 81 = .ok (.invokevirtual 104, 3) := by decide +kernel
theorem dX0_readClause_84 : decode cX0_readClause 84 = .ok (.ireturn, 1) := by decide +kernel
theorem dX0_readClause_85 : decode cX0_readClause 85 = .ok (.aload_n 0, 1) := by decide +kernel
theorem dX0_readClause_86 : decode cX0_readClause 86 = .ok (.iload 4, 2) := by decide +kernel
theorem dX0_readClause_88 : decode cX0_readClause 88 = .ok (.iload 5, 2) := by decide +kernel
theorem dX0_readClause_90 : decode cX0_readClause 90 = .ok (.invokevirtual 107, 3) := by decide +kernel
theorem dX0_readClause_93 : decode cX0_readClause 93 = .ok (.ireturn, 1) := by decide +kernel
theorem dX0_readClause_94 : decode cX0_readClause 94 = .ok (.aload_n 0, 1) := by decide +kernel
theorem dX0_readClause_95 : decode cX0_readClause 95 = .ok (.iload 4, 2) := by decide +kernel
theorem dX0_readClause_97 : decode cX0_readClause 97 = .ok (.iload 5, 2) := by decide +kernel
theorem dX0_readClause_99 : decode cX0_readClause 99 = .ok (.invokevirtual 110, 3) := by decide +kernel
theorem dX0_readClause_102 : decode cX0_readClause 102 = .ok (.ireturn, 1) := by decide +kernel
theorem dX0_mostOfFirst_0 : decode cX0_mostOfFirst 0 = .ok (.iload_n 1, 1) := by decide +kernel
theorem dX0_mostOfFirst_1 : decode cX0_mostOfFirst 1 = .ok (.tableswitch 40 0 2 #[27, 31, 33], 27) := by decide +kernel
theorem dX0_mostOfFirst_28 : decode cX0_mostOfFirst 28 = .ok (.sipush 255, 3) := by decide +kernel
theorem dX0_mostOfFirst_31 : decode cX0_mostOfFirst 31 = .ok (.ireturn, 1) := by decide +kernel
theorem dX0_mostOfFirst_32 : decode cX0_mostOfFirst 32 = .ok (.iconst 3, 1) := by decide +kernel
theorem dX0_mostOfFirst_33 : decode cX0_mostOfFirst 33 = .ok (.ireturn, 1) := by decide +kernel
theorem dX0_mostOfFirst_34 : decode cX0_mostOfFirst 34 = .ok (.aload_n 0, 1) := by decide +kernel
theorem dX0_mostOfFirst_35 : decode cX0_mostOfFirst 35 = .ok (.getfield 32, 3) := by decide +kernel
theorem dX0_mostOfFirst_38 : decode cX0_mostOfFirst 38 = .ok (.iconst 1, 1) := by decide +kernel
theorem dX0_mostOfFirst_39 : decode cX0_mostOfFirst 39 = .ok (.isub, 1) := by decide +kernel
theorem dX0_mostOfFirst_40 : decode cX0_mostOfFirst 40 = .ok (.ireturn, 1) := by decide +kernel
theorem dX0_mostOfFirst_41 : decode cX0_mostOfFirst 41 = .ok (.sipush 999, 3) := by decide +kernel
theorem dX0_mostOfFirst_44 : decode cX0_mostOfFirst 44 = .ok (.ireturn, 1) := by decide +kernel
theorem dX0_mostOfSecond_0 : decode cX0_mostOfSecond 0 = .ok (.iload_n 0, 1) := by decide +kernel
theorem dX0_mostOfSecond_1 : decode cX0_mostOfSecond 1 = .ok (.lookupswitch 33 #[(0, 27), (1, 30)], 27) := by decide +kernel
theorem dX0_mostOfSecond_28 : decode cX0_mostOfSecond 28 = .ok (.bipush 40, 2) := by decide +kernel
theorem dX0_mostOfSecond_30 : decode cX0_mostOfSecond 30 = .ok (.ireturn, 1) := by decide +kernel
theorem dX0_mostOfSecond_31 : decode cX0_mostOfSecond 31 = .ok (.bipush 40, 2) := by decide +kernel
theorem dX0_mostOfSecond_33 : decode cX0_mostOfSecond 33 = .ok (.ireturn, 1) := by decide +kernel
theorem dX0_mostOfSecond_34 : decode cX0_mostOfSecond 34 = .ok (.sipush 255, 3) := by decide +kernel
theorem dX0_mostOfSecond_37 : decode cX0_mostOfSecond 37 = .ok (.ireturn, 1) := by decide +kernel
theorem dX0_addGate_0 : decode cX0_addGate 0 = .ok (.aload_n 0, 1) := by decide +kernel
theorem dX0_addGate_1 : decode cX0_addGate 1 = .ok (.getfield 32, 3) := by decide +kernel
theorem dX0_addGate_4 : decode cX0_addGate 4 = .ok (.iconst 5, 1) := by decide +kernel
theorem dX0_addGate_5 : decode cX0_addGate 5 = .ok (.if_icmp .lt 5, 3) := by decide +kernel
theorem dX0_addGate_8 : decode cX0_addGate 8 = .ok (.iconst 0, 1) := by decide +kernel
theorem dX0_addGate_9 : decode cX0_addGate 9 = .ok (.ireturn, 1) := by decide +kernel
theorem dX0_addGate_10 : decode cX0_addGate 10 = .ok (.aload_n 0, 1) := by decide +kernel
theorem dX0_addGate_11 : decode cX0_addGate 11 = .ok (.getfield 9, 3) := by decide +kernel
theorem dX0_addGate_14 : decode cX0_addGate 14 = .ok (.aload_n 0, 1) := by decide +kernel
theorem dX0_addGate_15 : decode cX0_addGate 15 = .ok (.getfield 32, 3) := by decide +kernel
theorem dX0_addGate_18 : decode cX0_addGate 18 = .ok (.iload_n 1, 1) := by decide +kernel
theorem dX0_addGate_19 : decode cX0_addGate 19 = .ok (.iastore, 1) := by decide +kernel
theorem dX0_addGate_20 : decode cX0_addGate 20 = .ok (.aload_n 0, 1) := by decide +kernel
theorem dX0_addGate_21 : decode cX0_addGate 21 = .ok (.getfield 15, 3) := by decide +kernel
theorem dX0_addGate_24 : decode cX0_addGate 24 = .ok (.aload_n 0, 1) := by decide +kernel
theorem dX0_addGate_25 : decode cX0_addGate 25 = .ok (.getfield 32, 3) := by decide +kernel
theorem dX0_addGate_28 : decode cX0_addGate 28 = .ok (.iload_n 2, 1) := by decide +kernel
theorem dX0_addGate_29 : decode cX0_addGate 29 = .ok (.iastore, 1) := by decide +kernel
theorem dX0_addGate_30 : decode cX0_addGate 30 = .ok (.aload_n 0, 1) := by decide +kernel
theorem dX0_addGate_31 : decode cX0_addGate 31 = .ok (.getfield 18, 3) := by decide +kernel
theorem dX0_addGate_34 : decode cX0_addGate 34 = .ok (.aload_n 0, 1) := by decide +kernel
theorem dX0_addGate_35 : decode cX0_addGate 35 = .ok (.getfield 32, 3) := by decide +kernel
theorem dX0_addGate_38 : decode cX0_addGate 38 = .ok (.iconst 0, 1) := by decide +kernel
theorem dX0_addGate_39 : decode cX0_addGate 39 = .ok (.iastore, 1) := by decide +kernel
theorem dX0_addGate_40 : decode cX0_addGate 40 = .ok (.aload_n 0, 1) := by decide +kernel
theorem dX0_addGate_41 : decode cX0_addGate 41 = .ok (.dup, 1) := by decide +kernel
theorem dX0_addGate_42 : decode cX0_addGate 42 = .ok (.getfield 32, 3) := by decide +kernel
theorem dX0_addGate_45 : decode cX0_addGate 45 = .ok (.iconst 1, 1) := by decide +kernel
theorem dX0_addGate_46 : decode cX0_addGate 46 = .ok (.iadd, 1) := by decide +kernel
theorem dX0_addGate_47 : decode cX0_addGate 47 = .ok (.putfield 32, 3) := by decide +kernel
theorem dX0_addGate_50 : decode cX0_addGate 50 = .ok (.iconst 1, 1) := by decide +kernel
theorem dX0_addGate_51 : decode cX0_addGate 51 = .ok (.ireturn, 1) := by decide +kernel
theorem dX0_addToList_0 : decode cX0_addToList 0 = .ok (.iload_n 1, 1) := by decide +kernel
theorem dX0_addToList_1 : decode cX0_addToList 1 = .ok (.ifCond .lt 19, 3) := by decide +kernel
theorem dX0_addToList_4 : decode cX0_addToList 4 = .ok (.iload_n 1, 1) := by decide +kernel
theorem dX0_addToList_5 : decode cX0_addToList 5 = .ok (.iconst 5, 1) := by decide +kernel
theorem dX0_addToList_6 : decode cX0_addToList 6 = .ok (.if_icmp .ge 14, 3) := by decide +kernel
theorem dX0_addToList_9 : decode cX0_addToList 9 = .ok (.aload_n 0, 1) := by decide +kernel
theorem dX0_addToList_10 : decode cX0_addToList 10 = .ok (.getfield 18, 3) := by decide +kernel
theorem dX0_addToList_13 : decode cX0_addToList 13 = .ok (.iload_n 1, 1) := by decide +kernel
theorem dX0_addToList_14 : decode cX0_addToList 14 = .ok (.iaload, 1) := by decide +kernel
theorem dX0_addToList_15 : decode cX0_addToList 15 = .ok (.bipush 24, 2) := by decide +kernel
theorem dX0_addToList_17 : decode cX0_addToList 17 = .ok (.if_icmp .lt 5, 3) := by decide +kernel
theorem dX0_addToList_20 : decode cX0_addToList 20 = .ok (.iconst 0, 1) := by decide +kernel
theorem dX0_addToList_21 : decode cX0_addToList 21 = .ok (.ireturn, 1) := by decide +kernel
theorem dX0_addToList_22 : decode cX0_addToList 22 = .ok (.aload_n 0, 1) := by decide +kernel
theorem dX0_addToList_23 : decode cX0_addToList 23 = .ok (.getfield 23, 3) := by decide +kernel
theorem dX0_addToList_26 : decode cX0_addToList 26 = .ok (.iload_n 1, 1) := by decide +kernel
theorem dX0_addToList_27 : decode cX0_addToList 27 = .ok (.aaload, 1) := by decide +kernel
theorem dX0_addToList_28 : decode cX0_addToList 28 = .ok (.aload_n 0, 1) := by decide +kernel
theorem dX0_addToList_29 : decode cX0_addToList 29 = .ok (.getfield 18, 3) := by decide +kernel
theorem dX0_addToList_32 : decode cX0_addToList 32 = .ok (.iload_n 1, 1) := by decide +kernel
theorem dX0_addToList_33 : decode cX0_addToList 33 = .ok (.iaload, 1) := by decide +kernel
theorem dX0_addToList_34 : decode cX0_addToList 34 = .ok (.iload_n 2, 1) := by decide +kernel
theorem dX0_addToList_35 : decode cX0_addToList 35 = .ok (.iastore, 1) := by decide +kernel
theorem dX0_addToList_36 : decode cX0_addToList 36 = .ok (.aload_n 0, 1) := by decide +kernel
theorem dX0_addToList_37 : decode cX0_addToList 37 = .ok (.getfield 18, 3) := by decide +kernel
theorem dX0_addToList_40 : decode cX0_addToList 40 = .ok (.iload_n 1, 1) := by decide +kernel
theorem dX0_addToList_41 : decode cX0_addToList 41 = .ok (.dup2, 1) := by decide +kernel
theorem dX0_addToList_42 : decode cX0_addToList 42 = .ok (.iaload, 1) := by decide +kernel
theorem dX0_addToList_43 : decode cX0_addToList 43 = .ok (.iconst 1, 1) := by decide +kernel
theorem dX0_addToList_44 : decode cX0_addToList 44 = .ok (.iadd, 1) := by decide +kernel
theorem dX0_addToList_45 : decode cX0_addToList 45 = .ok (.iastore, 1) := by decide +kernel
theorem dX0_addToList_46 : decode cX0_addToList 46 = .ok (.aload_n 0, 1) := by decide +kernel
theorem dX0_addToList_47 : decode cX0_addToList 47 = .ok (.dup, 1) := by decide +kernel
theorem dX0_addToList_48 : decode cX0_addToList 48 = .ok (.getfield 36, 3) := by decide +kernel
theorem dX0_addToList_51 : decode cX0_addToList 51 = .ok (.iconst 1, 1) := by decide +kernel
theorem dX0_addToList_52 : decode cX0_addToList 52 = .ok (.iadd, 1) := by decide +kernel
theorem dX0_addToList_53 : decode cX0_addToList 53 = .ok (.putfield 36, 3) := by decide +kernel
theorem dX0_addToList_56 : decode cX0_addToList 56 = .ok (.iconst 1, 1) := by decide +kernel
theorem dX0_addToList_57 : decode cX0_addToList 57 = .ok (.ireturn, 1) := by decide +kernel
theorem dX1_init_0 : decode cX1_init 0 = .ok (.aload_n 0, 1) := by decide +kernel
theorem dX1_init_1 : decode cX1_init 1 = .ok (.invokespecial 3, 3) := by decide +kernel
theorem dX1_init_4 : decode cX1_init 4 = .ok (.return_, 1) := by decide +kernel
theorem dX1_live_0 : decode cX1_live 0 = .ok (.aload_n 0, 1) := by decide +kernel
theorem dX1_live_1 : decode cX1_live 1 = .ok (.iload_n 3, 1) := by decide +kernel
theorem dX1_live_2 : decode cX1_live 2 = .ok (.putfield 9, 3) := by decide +kernel
theorem dX1_live_5 : decode cX1_live 5 = .ok (.aload_n 0, 1) := by decide +kernel
theorem dX1_live_6 : decode cX1_live 6 = .ok (.iconst 0, 1) := by decide +kernel
theorem dX1_live_7 : decode cX1_live 7 = .ok (.putfield 15, 3) := by decide +kernel
theorem dX1_live_10 : decode cX1_live 10 = .ok (.aload_n 0, 1) := by decide +kernel
theorem dX1_live_11 : decode cX1_live 11 = .ok (.iconst 0, 1) := by decide +kernel
theorem dX1_live_12 : decode cX1_live 12 = .ok (.putfield 18, 3) := by decide +kernel
theorem dX1_live_15 : decode cX1_live 15 = .ok (.aload_n 2, 1) := by decide +kernel
theorem dX1_live_16 : decode cX1_live 16 = .ok (.getfield 21, 3) := by decide +kernel
theorem dX1_live_19 : decode cX1_live 19 = .ok (.ifCond .eq 13, 3) := by decide +kernel
theorem dX1_live_22 : decode cX1_live 22 = .ok (.aload_n 1, 1) := by decide +kernel
theorem dX1_live_23 : decode cX1_live 23 = .ok (.getfield 26, 3) := by decide +kernel
theorem dX1_live_26 : decode cX1_live 26 = .ok (.getfield 32, 3) := by decide +kernel
theorem dX1_live_29 : decode cX1_live 29 = .ok (.ifCond .ne 4, 3) := by decide +kernel
theorem dX1_live_32 : decode cX1_live 32 = .ok (.return_, 1) := by decide +kernel
theorem dX1_live_33 : decode cX1_live 33 = .ok (.iconst 1, 1) := by decide +kernel
theorem dX1_live_34 : decode cX1_live 34 = .ok (.istore 7, 2) := by decide +kernel
theorem dX1_live_36 : decode cX1_live 36 = .ok (.iload 7, 2) := by decide +kernel
theorem dX1_live_38 : decode cX1_live 38 = .ok (.iload 4, 2) := by decide +kernel
theorem dX1_live_40 : decode cX1_live 40 = .ok (.if_icmp .gt 30, 3) := by decide +kernel
theorem dX1_live_43 : decode cX1_live 43 = .ok (.aload_n 0, 1) := by decide +kernel
theorem dX1_live_44 : decode cX1_live 44 = .ok (.aload_n 1, 1) := by decide +kernel
theorem dX1_live_45 : decode cX1_live 45 = .ok (.aload_n 2, 1) := by decide +kernel
theorem dX1_live_46 : decode cX1_live 46 = .ok (.iload 5, 2) := by decide +kernel
theorem dX1_live_48 : decode cX1_live 48 = .ok (.iload 6, 2) := by decide +kernel
theorem dX1_live_50 : decode cX1_live 50 = .ok (.invokevirtual 37, 3) := by decide +kernel
theorem dX1_live_53 : decode cX1_live 53 = .ok (.iload 7, 2) := by decide +kernel
theorem dX1_live_55 : decode cX1_live 55 = .ok (.iconst 4, 1) := by decide +kernel
theorem dX1_live_56 : decode cX1_live 56 = .ok (.irem, 1) := by decide +kernel
theorem dX1_live_57 : decode cX1_live 57 = .ok (.ifCond .ne 7, 3) := by decide +kernel
theorem dX1_live_60 : decode cX1_live 60 = .ok (.aload_n 2, 1) := by decide +kernel
theorem dX1_live_61 : decode cX1_live 61 = .ok (.invokevirtual 41, 3) := by decide +kernel
theorem dX1_live_64 : decode cX1_live 64 = .ok (.iinc 7 1, 3) := by decide +kernel
theorem dX1_live_67 : decode cX1_live 67 = .ok (.goto (-31), 3) := by decide +kernel
theorem dX1_live_70 : decode cX1_live 70 = .ok (.return_, 1) := by decide +kernel
theorem dX1_liveDay_0 : decode cX1_liveDay 0 = .ok (.aload_n 0, 1) := by decide +kernel
theorem dX1_liveDay_1 : decode cX1_liveDay 1 = .ok (.aload_n 2, 1) := by decide +kernel
theorem dX1_liveDay_2 : decode cX1_liveDay 2 = .ok (.getfield 21, 3) := by decide +kernel
theorem dX1_liveDay_5 : decode cX1_liveDay 5 = .ok (.invokevirtual 44, 3) := by decide +kernel
theorem dX1_liveDay_8 : decode cX1_liveDay 8 = .ok (.istore 5, 2) := by decide +kernel
theorem dX1_liveDay_10 : decode cX1_liveDay 10 = .ok (.aload_n 0, 1) := by decide +kernel
theorem dX1_liveDay_11 : decode cX1_liveDay 11 = .ok (.aload_n 1, 1) := by decide +kernel
theorem dX1_liveDay_12 : decode cX1_liveDay 12 = .ok (.getfield 26, 3) := by decide +kernel
theorem dX1_liveDay_15 : decode cX1_liveDay 15 = .ok (.getfield 32, 3) := by decide +kernel
theorem dX1_liveDay_18 : decode cX1_liveDay 18 = .ok (.invokevirtual 44, 3) := by decide +kernel
theorem dX1_liveDay_21 : decode cX1_liveDay 21 = .ok (.istore 6, 2) := by decide +kernel
theorem dX1_liveDay_23 : decode cX1_liveDay 23 = .ok (.aload_n 1, 1) := by decide +kernel
theorem dX1_liveDay_24 : decode cX1_liveDay 24 = .ok (.aload_n 2, 1) := by decide +kernel
theorem dX1_liveDay_25 : decode cX1_liveDay 25 = .ok (.iload 5, 2) := by decide +kernel
theorem dX1_liveDay_27 : decode cX1_liveDay 27 = .ok (.iload 6, 2) := by decide +kernel
theorem dX1_liveDay_29 : decode cX1_liveDay 29 = .ok (.invokevirtual 48, 3) := by decide +kernel
theorem dX1_liveDay_32 : decode cX1_liveDay 32 = .ok (.ifCond .eq 13, 3) := by decide +kernel
theorem dX1_liveDay_35 : decode cX1_liveDay 35 = .ok (.aload_n 0, 1) := by decide +kernel
theorem dX1_liveDay_36 : decode cX1_liveDay 36 = .ok (.dup, 1) := by decide +kernel
theorem dX1_liveDay_37 : decode cX1_liveDay 37 = .ok (.getfield 15, 3) := by decide +kernel
theorem dX1_liveDay_40 : decode cX1_liveDay 40 = .ok (.iconst 1, 1) := by decide +kernel
theorem dX1_liveDay_41 : decode cX1_liveDay 41 = .ok (.iadd, 1) := by decide +kernel
theorem dX1_liveDay_42 : decode cX1_liveDay 42 = .ok (.putfield 15, 3) := by decide +kernel
theorem dX1_liveDay_45 : decode cX1_liveDay 45 = .ok (.aload_n 0, 1) := by decide +kernel
theorem dX1_liveDay_46 : decode cX1_liveDay 46 = .ok (.bipush 16, 2) := by decide +kernel
theorem dX1_liveDay_48 : decode cX1_liveDay 48 = .ok (.invokevirtual 44, 3) := by decide +kernel
theorem dX1_liveDay_51 : decode cX1_liveDay 51 = .ok (.iload_n 3, 1) := by decide +kernel
theorem dX1_liveDay_52 : decode cX1_liveDay 52 = .ok (.if_icmp .ge 29, 3) := by decide +kernel
theorem dX1_liveDay_55 : decode cX1_liveDay 55 = .ok (.aload_n 2, 1) := by decide +kernel
theorem dX1_liveDay_56 : decode cX1_liveDay 56 = .ok (.iload 5, 2) := by decide +kernel
theorem dX1_liveDay_58 : decode cX1_liveDay 58 = .ok (.aload_n 0, 1) := by decide +kernel
theorem dX1_liveDay_59 : decode cX1_liveDay 59 = .ok (.bipush 8, 2) := by decide +kernel
theorem dX1_liveDay_61 : decode cX1_liveDay 61 = .ok (.invokevirtual 44, 3) := by decide +kernel
theorem dX1_liveDay_64 : decode cX1_liveDay 64 = .ok (.iconst 1, 1) := by decide +kernel
theorem dX1_liveDay_65 : decode cX1_liveDay 65 = .ok (.invokevirtual 52, 3) := by decide +kernel
theorem dX1_liveDay_68 : decode cX1_liveDay 68 = .ok (.ifCond .eq 13, 3) := by decide +kernel
theorem dX1_liveDay_71 : decode cX1_liveDay 71 = .ok (.aload_n 0, 1) := by decide +kernel
theorem dX1_liveDay_72 : decode cX1_liveDay 72 = .ok (.dup, 1) := by decide +kernel
theorem dX1_liveDay_73 : decode cX1_liveDay 73 = .ok (.getfield 18, 3) := by decide +kernel
theorem dX1_liveDay_76 : decode cX1_liveDay 76 = .ok (.iconst 1, 1) := by decide +kernel
theorem dX1_liveDay_77 : decode cX1_liveDay 77 = .ok (.iadd, 1) := by decide +kernel
theorem dX1_liveDay_78 : decode cX1_liveDay 78 = .ok (.putfield 18, 3) := by decide +kernel
theorem dX1_liveDay_81 : decode cX1_liveDay 81 = .ok (.aload_n 0, 1) := by decide +kernel
theorem dX1_liveDay_82 : decode cX1_liveDay 82 = .ok (.bipush 16, 2) := by decide +kernel
theorem dX1_liveDay_84 : decode cX1_liveDay 84 = .ok (.invokevirtual 44, 3) := by decide +kernel
theorem dX1_liveDay_87 : decode cX1_liveDay 87 = .ok (.iload 4, 2) := by decide +kernel
theorem dX1_liveDay_89 : decode cX1_liveDay 89 = .ok (.if_icmp .ge 10, 3) := by decide +kernel
theorem dX1_liveDay_92 : decode cX1_liveDay 92 = .ok (.aload_n 2, 1) := by decide +kernel
theorem dX1_liveDay_93 : decode cX1_liveDay 93 = .ok (.iload 5, 2) := by decide +kernel
theorem dX1_liveDay_95 : decode cX1_liveDay 95 = .ok (.invokevirtual 56, 3) := by decide +kernel
theorem dX1_liveDay_98 : decode cX1_liveDay 98 = .ok (.pop, 1) := by decide +kernel
theorem dX1_liveDay_99 : decode cX1_liveDay 99 = .ok (.return_, 1) := by decide +kernel
theorem dX1_draw_0 : decode cX1_draw 0 = .ok (.aload_n 0, 1) := by decide +kernel
theorem dX1_draw_1 : decode cX1_draw 1 = .ok (.aload_n 0, 1) := by decide +kernel
theorem dX1_draw_2 : decode cX1_draw 2 = .ok (.getfield 9, 3) := by decide +kernel
theorem dX1_draw_5 : decode cX1_draw 5 = .ok (.ldc 60, 2) := by decide +kernel
theorem dX1_draw_7 : decode cX1_draw 7 = .ok (.imul, 1) := by decide +kernel
theorem dX1_draw_8 : decode cX1_draw 8 = .ok (.sipush 12345, 3) := by decide +kernel
theorem dX1_draw_11 : decode cX1_draw 11 = .ok (.iadd, 1) := by decide +kernel
theorem dX1_draw_12 : decode cX1_draw 12 = .ok (.putfield 9, 3) := by decide +kernel
theorem dX1_draw_15 : decode cX1_draw 15 = .ok (.iload_n 1, 1) := by decide +kernel
theorem dX1_draw_16 : decode cX1_draw 16 = .ok (.ifCond .gt 7, 3) := by decide +kernel
theorem dX1_draw_19 : decode cX1_draw 19 = .ok (.iconst 0, 1) := by decide +kernel
theorem dX1_draw_20 : decode cX1_draw 20 = .ok (.goto 16, 3) := by decide +kernel
theorem dX1_draw_23 : decode cX1_draw 23 = .ok (.aload_n 0, 1) := by decide +kernel
theorem dX1_draw_24 : decode cX1_draw 24 = .ok (.getfield 9, 3) := by decide +kernel
theorem dX1_draw_27 : decode cX1_draw 27 = .ok (.bipush 16, 2) := by decide +kernel
theorem dX1_draw_29 : decode cX1_draw 29 = .ok (.iushr, 1) := by decide +kernel
theorem dX1_draw_30 : decode cX1_draw 30 = .ok (.sipush 32767, 3) := by decide +kernel
theorem dX1_draw_33 : decode cX1_draw 33 = .ok (.iand, 1) := by decide +kernel
theorem dX1_draw_34 : decode cX1_draw 34 = .ok (.iload_n 1, 1) := by decide +kernel
theorem dX1_draw_35 : decode cX1_draw 35 = .ok (.irem, 1) := by decide +kernel
theorem dX1_draw_36 : decode cX1_draw 36 = .ok (.ireturn, 1) := by decide +kernel
theorem dX2_init_0 : decode cX2_init 0 = .ok (.aload_n 0, 1) := by decide +kernel
theorem dX2_init_1 : decode cX2_init 1 = .ok (.invokespecial 3, 3) := by decide +kernel
theorem dX2_init_4 : decode cX2_init 4 = .ok (.aload_n 0, 1) := by decide +kernel
theorem dX2_init_5 : decode cX2_init 5 = .ok (.sipush 150, 3) := by decide +kernel
theorem dX2_init_8 : decode cX2_init 8 = .ok (.newarray .int, 2) := by decide +kernel
theorem dX2_init_10 : decode cX2_init 10 = .ok (.putfield 9, 3) := by decide +kernel
theorem dX2_init_13 : decode cX2_init 13 = .ok (.aload_n 0, 1) := by decide +kernel
theorem dX2_init_14 : decode cX2_init 14 = .ok (.sipush 150, 3) := by decide +kernel
theorem dX2_init_17 : decode cX2_init 17 = .ok (.newarray .int, 2) := by decide +kernel
theorem dX2_init_19 : decode cX2_init 19 = .ok (.putfield 15, 3) := by decide +kernel
theorem dX2_init_22 : decode cX2_init 22 = .ok (.aload_n 0, 1) := by decide +kernel
theorem dX2_init_23 : decode cX2_init 23 = .ok (.sipush 150, 3) := by decide +kernel
theorem dX2_init_26 : decode cX2_init 26 = .ok (.newarray .int, 2) := by decide +kernel
theorem dX2_init_28 : decode cX2_init 28 = .ok (.putfield 18, 3) := by decide +kernel
theorem dX2_init_31 : decode cX2_init 31 = .ok (.aload_n 0, 1) := by decide +kernel
theorem dX2_init_32 : decode cX2_init 32 = .ok (.invokevirtual 21, 3) := by decide +kernel
theorem dX2_init_35 : decode cX2_init 35 = .ok (.return_, 1) := by decide +kernel
theorem dX2_clear_0 : decode cX2_clear 0 = .ok (.aload_n 0, 1) := by decide +kernel
theorem dX2_clear_1 : decode cX2_clear 1 = .ok (.iconst 0, 1) := by decide +kernel
theorem dX2_clear_2 : decode cX2_clear 2 = .ok (.putfield 24, 3) := by decide +kernel
theorem dX2_clear_5 : decode cX2_clear 5 = .ok (.return_, 1) := by decide +kernel
theorem dX2_setUsual_0 : decode cX2_setUsual 0 = .ok (.aload_n 0, 1) := by decide +kernel
theorem dX2_setUsual_1 : decode cX2_setUsual 1 = .ok (.invokevirtual 28, 3) := by decide +kernel
theorem dX2_setUsual_4 : decode cX2_setUsual 4 = .ok (.aload_n 0, 1) := by decide +kernel
theorem dX2_setUsual_5 : decode cX2_setUsual 5 = .ok (.iconst 1, 1) := by decide +kernel
theorem dX2_setUsual_6 : decode cX2_setUsual 6 = .ok (.iconst 0, 1) := by decide +kernel
theorem dX2_setUsual_7 : decode cX2_setUsual 7 = .ok (.invokevirtual 31, 3) := by decide +kernel
theorem dX2_setUsual_10 : decode cX2_setUsual 10 = .ok (.aload_n 0, 1) := by decide +kernel
theorem dX2_setUsual_11 : decode cX2_setUsual 11 = .ok (.iconst 1, 1) := by decide +kernel
theorem dX2_setUsual_12 : decode cX2_setUsual 12 = .ok (.iconst 1, 1) := by decide +kernel
theorem dX2_setUsual_13 : decode cX2_setUsual 13 = .ok (.invokevirtual 31, 3) := by decide +kernel
theorem dX2_setUsual_16 : decode cX2_setUsual 16 = .ok (.aload_n 0, 1) := by decide +kernel
theorem dX2_setUsual_17 : decode cX2_setUsual 17 = .ok (.iconst 0, 1) := by decide +kernel
theorem dX2_setUsual_18 : decode cX2_setUsual 18 = .ok (.iconst 2, 1) := by decide +kernel
theorem dX2_setUsual_19 : decode cX2_setUsual 19 = .ok (.invokevirtual 31, 3) := by decide +kernel
theorem dX2_setUsual_22 : decode cX2_setUsual 22 = .ok (.aload_n 0, 1) := by decide +kernel
theorem dX2_setUsual_23 : decode cX2_setUsual 23 = .ok (.iconst 4, 1) := by decide +kernel
theorem dX2_setUsual_24 : decode cX2_setUsual 24 = .ok (.iconst 0, 1) := by decide +kernel
theorem dX2_setUsual_25 : decode cX2_setUsual 25 = .ok (.invokevirtual 31, 3) := by decide +kernel
theorem dX2_setUsual_28 : decode cX2_setUsual 28 = .ok (.aload_n 0, 1) := by decide +kernel
theorem dX2_setUsual_29 : decode cX2_setUsual 29 = .ok (.iconst 2, 1) := by decide +kernel
theorem dX2_setUsual_30 : decode cX2_setUsual 30 = .ok (.iconst 0, 1) := by decide +kernel
theorem dX2_setUsual_31 : decode cX2_setUsual 31 = .ok (.invokevirtual 31, 3) := by decide +kernel
theorem dX2_setUsual_34 : decode cX2_setUsual 34 = .ok (.return_, 1) := by decide +kernel
theorem dX2_copyFrom_0 : decode cX2_copyFrom 0 = .ok (.aload_n 0, 1) := by decide +kernel
theorem dX2_copyFrom_1 : decode cX2_copyFrom 1 = .ok (.aload_n 1, 1) := by decide +kernel
theorem dX2_copyFrom_2 : decode cX2_copyFrom 2 = .ok (.getfield 24, 3) := by decide +kernel
theorem dX2_copyFrom_5 : decode cX2_copyFrom 5 = .ok (.putfield 24, 3) := by decide +kernel
theorem dX2_copyFrom_8 : decode cX2_copyFrom 8 = .ok (.aload_n 1, 1) := by decide +kernel
theorem dX2_copyFrom_9 : decode cX2_copyFrom 9 = .ok (.getfield 9, 3) := by decide +kernel
theorem dX2_copyFrom_12 : decode cX2_copyFrom 12 = .ok (.iconst 0, 1) := by decide +kernel
theorem dX2_copyFrom_13 : decode cX2_copyFrom 13 = .ok (.aload_n 0, 1) := by decide +kernel
theorem dX2_copyFrom_14 : decode cX2_copyFrom 14 = .ok (.getfield 9, 3) := by decide +kernel
theorem dX2_copyFrom_17 : decode cX2_copyFrom 17 = .ok (.iconst 0, 1) := by decide +kernel
theorem dX2_copyFrom_18 : decode cX2_copyFrom 18 = .ok (.sipush 150, 3) := by decide +kernel
theorem dX2_copyFrom_21 : decode cX2_copyFrom 21 = .ok (.invokestatic 35, 3) := by decide +kernel
theorem dX2_copyFrom_24 : decode cX2_copyFrom 24 = .ok (.aload_n 1, 1) := by decide +kernel
theorem dX2_copyFrom_25 : decode cX2_copyFrom 25 = .ok (.getfield 15, 3) := by decide +kernel
theorem dX2_copyFrom_28 : decode cX2_copyFrom 28 = .ok (.iconst 0, 1) := by decide +kernel
theorem dX2_copyFrom_29 : decode cX2_copyFrom 29 = .ok (.aload_n 0, 1) := by decide +kernel
theorem dX2_copyFrom_30 : decode cX2_copyFrom 30 = .ok (.getfield 15, 3) := by decide +kernel
theorem dX2_copyFrom_33 : decode cX2_copyFrom 33 = .ok (.iconst 0, 1) := by decide +kernel
theorem dX2_copyFrom_34 : decode cX2_copyFrom 34 = .ok (.sipush 150, 3) := by decide +kernel
theorem dX2_copyFrom_37 : decode cX2_copyFrom 37 = .ok (.invokestatic 35, 3) := by decide +kernel
theorem dX2_copyFrom_40 : decode cX2_copyFrom 40 = .ok (.return_, 1) := by decide +kernel
theorem dX2_add_0 : decode cX2_add 0 = .ok (.aload_n 0, 1) := by decide +kernel
theorem dX2_add_1 : decode cX2_add 1 = .ok (.getfield 24, 3) := by decide +kernel
theorem dX2_add_4 : decode cX2_add 4 = .ok (.sipush 150, 3) := by decide +kernel
theorem dX2_add_7 : decode cX2_add 7 = .ok (.if_icmp .ge 33, 3) := by decide +kernel
theorem dX2_add_10 : decode cX2_add 10 = .ok (.aload_n 0, 1) := by decide +kernel
theorem dX2_add_11 : decode cX2_add 11 = .ok (.getfield 9, 3) := by decide +kernel
theorem dX2_add_14 : decode cX2_add 14 = .ok (.aload_n 0, 1) := by decide +kernel
theorem dX2_add_15 : decode cX2_add 15 = .ok (.getfield 24, 3) := by decide +kernel
theorem dX2_add_18 : decode cX2_add 18 = .ok (.iload_n 1, 1) := by decide +kernel
theorem dX2_add_19 : decode cX2_add 19 = .ok (.iastore, 1) := by decide +kernel
theorem dX2_add_20 : decode cX2_add 20 = .ok (.aload_n 0, 1) := by decide +kernel
theorem dX2_add_21 : decode cX2_add 21 = .ok (.getfield 15, 3) := by decide +kernel
theorem dX2_add_24 : decode cX2_add 24 = .ok (.aload_n 0, 1) := by decide +kernel
theorem dX2_add_25 : decode cX2_add 25 = .ok (.getfield 24, 3) := by decide +kernel
theorem dX2_add_28 : decode cX2_add 28 = .ok (.iload_n 2, 1) := by decide +kernel
theorem dX2_add_29 : decode cX2_add 29 = .ok (.iastore, 1) := by decide +kernel
theorem dX2_add_30 : decode cX2_add 30 = .ok (.aload_n 0, 1) := by decide +kernel
theorem dX2_add_31 : decode cX2_add 31 = .ok (.dup, 1) := by decide +kernel
theorem dX2_add_32 : decode cX2_add 32 = .ok (.getfield 24, 3) := by decide +kernel
theorem dX2_add_35 : decode cX2_add 35 = .ok (.iconst 1, 1) := by decide +kernel
theorem dX2_add_36 : decode cX2_add 36 = .ok (.iadd, 1) := by decide +kernel
theorem dX2_add_37 : decode cX2_add 37 = .ok (.putfield 24, 3) := by decide +kernel
theorem dX2_add_40 : decode cX2_add 40 = .ok (.return_, 1) := by decide +kernel
theorem dX2_readSum_0 : decode cX2_readSum 0 = .ok (.aload_n 0, 1) := by decide +kernel
theorem dX2_readSum_1 : decode cX2_readSum 1 = .ok (.aload_n 1, 1) := by decide +kernel
theorem dX2_readSum_2 : decode cX2_readSum 2 = .ok (.iload_n 2, 1) := by decide +kernel
theorem dX2_readSum_3 : decode cX2_readSum 3 = .ok (.invokevirtual 41, 3) := by decide +kernel
theorem dX2_readSum_6 : decode cX2_readSum 6 = .ok (.ifCond .ne 5, 3) := by decide +kernel
theorem dX2_readSum_9 : decode cX2_readSum 9 = .ok (.iconst 0, 1) := by decide +kernel
theorem dX2_readSum_10 : decode cX2_readSum 10 = .ok (.ireturn, 1) := by decide +kernel
theorem dX2_readSum_11 : decode cX2_readSum 11 = .ok (.iconst 0, 1) := by decide +kernel
theorem dX2_readSum_12 : decode cX2_readSum 12 = .ok (.istore_n 3, 1) := by decide +kernel
theorem dX2_readSum_13 : decode cX2_readSum 13 = .ok (.iload_n 3, 1) := by decide +kernel
theorem dX2_readSum_14 : decode cX2_readSum 14 = .ok (.sipush 150, 3) := by decide +kernel
theorem dX2_readSum_17 : decode cX2_readSum 17 = .ok (.if_icmp .ge 68, 3) := by decide +kernel
theorem dX2_readSum_20 : decode cX2_readSum 20 = .ok (.aload_n 1, 1) := by decide +kernel
theorem dX2_readSum_21 : decode cX2_readSum 21 = .ok (.invokevirtual 45, 3) := by decide +kernel
theorem dX2_readSum_24 : decode cX2_readSum 24 = .ok (.istore 4, 2) := by decide +kernel
theorem dX2_readSum_26 : decode cX2_readSum 26 = .ok (.iload 4, 2) := by decide +kernel
theorem dX2_readSum_28 : decode cX2_readSum 28 = .ok (.bipush 43, 2) := by decide +kernel
theorem dX2_readSum_30 : decode cX2_readSum 30 = .ok (.if_icmp .eq 12, 3) := by decide +kernel
theorem dX2_readSum_33 : decode cX2_readSum 33 = .ok (.iload 4, 2) := by decide +kernel
theorem dX2_readSum_35 : decode cX2_readSum 35 = .ok (.bipush 45, 2) := by decide +kernel
theorem dX2_readSum_37 : decode cX2_readSum 37 = .ok (.if_icmp .eq 5, 3) := by decide +kernel
theorem dX2_readSum_40 : decode cX2_readSum 40 = .ok (.iconst 1, 1) := by decide +kernel
theorem dX2_readSum_41 : decode cX2_readSum 41 = .ok (.ireturn, 1) := by decide +kernel
theorem dX2_readSum_42 : decode cX2_readSum 42 = .ok (.aload_n 1, 1) := by decide +kernel
theorem dX2_readSum_43 : decode cX2_readSum 43 = .ok (.iload 4, 2) := by decide +kernel
theorem dX2_readSum_45 : decode cX2_readSum 45 = .ok (.invokevirtual 51, 3) := by decide +kernel
theorem dX2_readSum_48 : decode cX2_readSum 48 = .ok (.ifCond .eq 12, 3) := by decide +kernel
theorem dX2_readSum_51 : decode cX2_readSum 51 = .ok (.aload_n 0, 1) := by decide +kernel
theorem dX2_readSum_52 : decode cX2_readSum 52 = .ok (.aload_n 1, 1) := by decide +kernel
theorem dX2_readSum_53 : decode cX2_readSum 53 = .ok (.iload_n 2, 1) := by decide +kernel
theorem dX2_readSum_54 : decode cX2_readSum 54 = .ok (.invokevirtual 41, 3) := by decide +kernel
theorem dX2_readSum_57 : decode cX2_readSum 57 = .ok (.ifCond .ne 5, 3) := by decide +kernel
theorem dX2_readSum_60 : decode cX2_readSum 60 = .ok (.iconst 0, 1) := by decide +kernel
theorem dX2_readSum_61 : decode cX2_readSum 61 = .ok (.ireturn, 1) := by decide +kernel
theorem dX2_readSum_62 : decode cX2_readSum 62 = .ok (.aload_n 0, 1) := by decide +kernel
theorem dX2_readSum_63 : decode cX2_readSum 63 = .ok (.iload 4, 2) := by decide +kernel
theorem dX2_readSum_65 : decode cX2_readSum 65 = .ok (.bipush 43, 2) := by decide +kernel
theorem dX2_readSum_67 : decode cX2_readSum 67 = .ok (.if_icmp .ne 7, 3) := by decide +kernel
theorem dX2_readSum_70 : decode cX2_readSum 70 = .ok (.iconst 2, 1) := by decide +kernel
theorem dX2_readSum_71 : decode cX2_readSum 71 = .ok (.goto 4, 3) := by decide +kernel
theorem dX2_readSum_74 : decode cX2_readSum 74 = .ok (.iconst 3, 1) := by decide +kernel
theorem dX2_readSum_75 : decode cX2_readSum 75 = .ok (.iconst 0, 1) := by decide +kernel
theorem dX2_readSum_76 : decode cX2_readSum 76 = .ok (.invokevirtual 31, 3) := by decide +kernel
theorem dX2_readSum_79 : decode cX2_readSum 79 = .ok (.iinc 3 1, 3) := by decide +kernel
theorem dX2_readSum_82 : decode cX2_readSum 82 = .ok (.goto (-69), 3) := by decide +kernel
theorem dX2_readSum_85 : decode cX2_readSum 85 = .ok (.iconst 1, 1) := by decide +kernel
theorem dX2_readSum_86 : decode cX2_readSum 86 = .ok (.ireturn, 1) := by decide +kernel
theorem dX2_readProduct_0 : decode cX2_readProduct 0 = .ok (.aload_n 0, 1) := by decide +kernel
theorem dX2_readProduct_1 : decode cX2_readProduct 1 = .ok (.aload_n 1, 1) := by decide +kernel
theorem dX2_readProduct_2 : decode cX2_readProduct 2 = .ok (.iload_n 2, 1) := by decide +kernel
theorem dX2_readProduct_3 : decode cX2_readProduct 3 = .ok (.invokevirtual 55, 3) := by decide +kernel
theorem dX2_readProduct_6 : decode cX2_readProduct 6 = .ok (.ifCond .ne 5, 3) := by decide +kernel
theorem dX2_readProduct_9 : decode cX2_readProduct 9 = .ok (.iconst 0, 1) := by decide +kernel
theorem dX2_readProduct_10 : decode cX2_readProduct 10 = .ok (.ireturn, 1) := by decide +kernel
theorem dX2_readProduct_11 : decode cX2_readProduct 11 = .ok (.iconst 0, 1) := by decide +kernel
theorem dX2_readProduct_12 : decode cX2_readProduct 12 = .ok (.istore_n 3, 1) := by decide +kernel
theorem dX2_readProduct_13 : decode cX2_readProduct 13 = .ok (.iload_n 3, 1) := by decide +kernel
theorem dX2_readProduct_14 : decode cX2_readProduct 14 = .ok (.sipush 150, 3) := by decide +kernel
theorem dX2_readProduct_17 : decode cX2_readProduct 17 = .ok (.if_icmp .ge 87, 3) := by decide +kernel
theorem dX2_readProduct_20 : decode cX2_readProduct 20 = .ok (.aload_n 1, 1) := by decide +kernel
theorem dX2_readProduct_21 : decode cX2_readProduct 21 = .ok (.invokevirtual 45, 3) := by decide +kernel
theorem dX2_readProduct_24 : decode cX2_readProduct 24 = .ok (.istore 4, 2) := by decide +kernel
theorem dX2_readProduct_26 : decode cX2_readProduct 26 = .ok (.iload 4, 2) := by decide +kernel
theorem dX2_readProduct_28 : decode cX2_readProduct 28 = .ok (.bipush 42, 2) := by decide +kernel
theorem dX2_readProduct_30 : decode cX2_readProduct 30 = .ok (.if_icmp .eq 19, 3) := by decide +kernel
theorem dX2_readProduct_33 : decode cX2_readProduct 33 = .ok (.iload 4, 2) := by decide +kernel
theorem dX2_readProduct_35 : decode cX2_readProduct 35 = .ok (.bipush 47, 2) := by decide +kernel
theorem dX2_readProduct_37 : decode cX2_readProduct 37 = .ok (.if_icmp .eq 12, 3) := by decide +kernel
theorem dX2_readProduct_40 : decode cX2_readProduct 40 = .ok (.iload 4, 2) := by decide +kernel
theorem dX2_readProduct_42 : decode cX2_readProduct 42 = .ok (.bipush 37, 2) := by decide +kernel
theorem dX2_readProduct_44 : decode cX2_readProduct 44 = .ok (.if_icmp .eq 5, 3) := by decide +kernel
theorem dX2_readProduct_47 : decode cX2_readProduct 47 = .ok (.iconst 1, 1) := by decide +kernel
theorem dX2_readProduct_48 : decode cX2_readProduct 48 = .ok (.ireturn, 1) := by decide +kernel
theorem dX2_readProduct_49 : decode cX2_readProduct 49 = .ok (.aload_n 1, 1) := by decide +kernel
theorem dX2_readProduct_50 : decode cX2_readProduct 50 = .ok (.iload 4, 2) := by decide +kernel
theorem dX2_readProduct_52 : decode cX2_readProduct 52 = .ok (.invokevirtual 51, 3) := by decide +kernel
theorem dX2_readProduct_55 : decode cX2_readProduct 55 = .ok (.ifCond .eq 12, 3) := by decide +kernel
theorem dX2_readProduct_58 : decode cX2_readProduct 58 = .ok (.aload_n 0, 1) := by decide +kernel
theorem dX2_readProduct_59 : decode cX2_readProduct 59 = .ok (.aload_n 1, 1) := by decide +kernel
theorem dX2_readProduct_60 : decode cX2_readProduct 60 = .ok (.iload_n 2, 1) := by decide +kernel
theorem dX2_readProduct_61 : decode cX2_readProduct 61 = .ok (.invokevirtual 55, 3) := by decide +kernel
theorem dX2_readProduct_64 : decode cX2_readProduct 64 = .ok (.ifCond .ne 5, 3) := by decide +kernel
theorem dX2_readProduct_67 : decode cX2_readProduct 67 = .ok (.iconst 0, 1) := by decide +kernel
theorem dX2_readProduct_68 : decode cX2_readProduct 68 = .ok (.ireturn, 1) := by decide +kernel
theorem dX2_readProduct_69 : decode cX2_readProduct 69 = .ok (.aload_n 0, 1) := by decide +kernel
theorem dX2_readProduct_70 : decode cX2_readProduct 70 = .ok (.iload 4, 2) := by decide +kernel
theorem dX2_readProduct_72 : decode cX2_readProduct 72 = .ok (.bipush 42, 2) := by decide +kernel
theorem dX2_readProduct_74 : decode cX2_readProduct 74 = .ok (.if_icmp .ne 7, 3) := by decide +kernel
theorem dX2_readProduct_77 : decode cX2_readProduct 77 = .ok (.iconst 4, 1) := by decide +kernel
theorem dX2_readProduct_78 : decode cX2_readProduct 78 = .ok (.goto 16, 3) := by decide +kernel
theorem dX2_readProduct_81 : decode cX2_readProduct 81 = .ok (.iload 4, 2) := by decide +kernel
theorem dX2_readProduct_83 : decode cX2_readProduct 83 = .ok (.bipush 47, 2) := by decide +kernel
theorem dX2_readProduct_85 : decode cX2_readProduct 85 = .ok (.if_icmp .ne 7, 3) := by decide +kernel
theorem dX2_readProduct_88 : decode cX2_readProduct 88 = .ok (.iconst 5, 1) := by decide +kernel
theorem dX2_readProduct_89 : decode cX2_readProduct 89 = .ok (.goto 5, 3) := by decide +kernel
theorem dX2_readProduct_92 : decode cX2_readProduct 92 = .ok (.bipush 6, 2) := by decide +kernel
theorem dX2_readProduct_94 : decode cX2_readProduct 94 = .ok (.iconst 0, 1) := by decide +kernel
theorem dX2_readProduct_95 : decode cX2_readProduct 95 = .ok (.invokevirtual 31, 3) := by decide +kernel
theorem dX2_readProduct_98 : decode cX2_readProduct 98 = .ok (.iinc 3 1, 3) := by decide +kernel
theorem dX2_readProduct_101 : decode cX2_readProduct 101 = .ok (.goto (-88), 3) := by decide +kernel
theorem dX2_readProduct_104 : decode cX2_readProduct 104 = .ok (.iconst 1, 1) := by decide +kernel
theorem dX2_readProduct_105 : decode cX2_readProduct 105 = .ok (.ireturn, 1) := by decide +kernel
theorem dX2_readUnit_0 : decode cX2_readUnit 0 = .ok (.aload_n 1, 1) := by decide +kernel
theorem dX2_readUnit_1 : decode cX2_readUnit 1 = .ok (.invokevirtual 45, 3) := by decide +kernel
theorem dX2_readUnit_4 : decode cX2_readUnit 4 = .ok (.istore_n 3, 1) := by decide +kernel
theorem dX2_readUnit_5 : decode cX2_readUnit 5 = .ok (.iload_n 3, 1) := by decide +kernel
theorem dX2_readUnit_6 : decode cX2_readUnit 6 = .ok (.bipush 40, 2) := by decide +kernel
theorem dX2_readUnit_8 : decode cX2_readUnit 8 = .ok (.if_icmp .ne 10, 3) := by decide +kernel
theorem dX2_readUnit_11 : decode cX2_readUnit 11 = .ok (.aload_n 0, 1) := by decide +kernel
theorem dX2_readUnit_12 : decode cX2_readUnit 12 = .ok (.aload_n 1, 1) := by decide +kernel
theorem dX2_readUnit_13 : decode cX2_readUnit 13 = .ok (.iload_n 2, 1) := by decide +kernel
theorem dX2_readUnit_14 : decode cX2_readUnit 14 = .ok (.invokevirtual 58, 3) := by decide +kernel
theorem dX2_readUnit_17 : decode cX2_readUnit 17 = .ok (.ireturn, 1) := by decide +kernel
theorem dX2_readUnit_18 : decode cX2_readUnit 18 = .ok (.iload_n 3, 1) := by decide +kernel
theorem dX2_readUnit_19 : decode cX2_readUnit 19 = .ok (.invokestatic 61, 3) := by decide +kernel
theorem dX2_readUnit_22 : decode cX2_readUnit 22 = .ok (.ifCond .ne 31, 3) := by decide +kernel
theorem dX2_readUnit_25 : decode cX2_readUnit 25 = .ok (.aload_n 1, 1) := by decide +kernel
theorem dX2_readUnit_26 : decode cX2_readUnit 26 = .ok (.sipush 999, 3) := by decide +kernel
theorem dX2_readUnit_29 : decode cX2_readUnit 29 = .ok (.invokevirtual 64, 3) := by decide +kernel
theorem dX2_readUnit_32 : decode cX2_readUnit 32 = .ok (.istore 4, 2) := by decide +kernel
theorem dX2_readUnit_34 : decode cX2_readUnit 34 = .ok (.aload_n 0, 1) := by decide +kernel
theorem dX2_readUnit_35 : decode cX2_readUnit 35 = .ok (.iconst 0, 1) := by decide +kernel
theorem dX2_readUnit_36 : decode cX2_readUnit 36 = .ok (.iload 4, 2) := by decide +kernel
theorem dX2_readUnit_38 : decode cX2_readUnit 38 = .ok (.invokevirtual 31, 3) := by decide +kernel
theorem dX2_readUnit_41 : decode cX2_readUnit 41 = .ok (.iload 4, 2) := by decide +kernel
theorem dX2_readUnit_43 : decode cX2_readUnit 43 = .ok (.iconst (-1), 1) := by decide +kernel
theorem dX2_readUnit_44 : decode cX2_readUnit 44 = .ok (.if_icmp .eq 7, 3) := by decide +kernel
theorem dX2_readUnit_47 : decode cX2_readUnit 47 = .ok (.iconst 1, 1) := by decide +kernel
theorem dX2_readUnit_48 : decode cX2_readUnit 48 = .ok (.goto 4, 3) := by decide +kernel
theorem dX2_readUnit_51 : decode cX2_readUnit 51 = .ok (.iconst 0, 1) := by decide +kernel
theorem dX2_readUnit_52 : decode cX2_readUnit 52 = .ok (.ireturn, 1) := by decide +kernel
theorem dX2_readUnit_53 : decode cX2_readUnit 53 = .ok (.aload_n 1, 1) := by decide +kernel
theorem dX2_readUnit_54 : decode cX2_readUnit 54 = .ok (.invokevirtual 68, 3) := by decide +kernel
theorem dX2_readUnit_57 : decode cX2_readUnit 57 = .ok (.aload_n 1, 1) := by decide +kernel
theorem dX2_readUnit_58 : decode cX2_readUnit 58 = .ok (.ldc 71, 2) := by decide +kernel
theorem dX2_readUnit_60 : decode cX2_readUnit 60 = .ok (.invokevirtual 73, 3) := by decide +kernel
theorem dX2_readUnit_63 : decode cX2_readUnit 63 = .ok (.ifCond .eq 12, 3) := by decide +kernel
theorem dX2_readUnit_66 : decode cX2_readUnit 66 = .ok (.aload_n 0, 1) := by decide +kernel
theorem dX2_readUnit_67 : decode cX2_readUnit 67 = .ok (.aload_n 1, 1) := by decide +kernel
theorem dX2_readUnit_68 : decode cX2_readUnit 68 = .ok (.iload_n 2, 1) := by decide +kernel
theorem dX2_readUnit_69 : decode cX2_readUnit 69 = .ok (.bipush 7, 2) := by decide +kernel
theorem dX2_readUnit_71 : decode cX2_readUnit 71 = .ok (.invokevirtual 77, 3) := by decide +kernel
theorem dX2_readUnit_74 : decode cX2_readUnit 74 = .ok (.ireturn, 1) := by decide +kernel
theorem dX2_readUnit_75 : decode cX2_readUnit 75 = .ok (.aload_n 1, 1) := by decide +kernel
theorem dX2_readUnit_76 : decode cX2_readUnit 76 = .ok (.ldc 81, 2) := by decide +kernel
theorem dX2_readUnit_78 : decode cX2_readUnit 78 = .ok (.invokevirtual 73, 3) := by decide +kernel
theorem dX2_readUnit_81 : decode cX2_readUnit 81 = .ok (.ifCond .eq 12, 3) := by decide +kernel
theorem dX2_readUnit_84 : decode cX2_readUnit 84 = .ok (.aload_n 0, 1) := by decide +kernel
theorem dX2_readUnit_85 : decode cX2_readUnit 85 = .ok (.aload_n 1, 1) := by decide +kernel
theorem dX2_readUnit_86 : decode cX2_readUnit 86 = .ok (.iload_n 2, 1) := by decide +kernel
theorem dX2_readUnit_87 : decode cX2_readUnit 87 = .ok (.bipush 8, 2) := by decide +kernel
theorem dX2_readUnit_89 : decode cX2_readUnit 89 = .ok (.invokevirtual 77, 3) := by decide +kernel
theorem dX2_readUnit_92 : decode cX2_readUnit 92 = .ok (.ireturn, 1) := by decide +kernel
theorem dX2_readUnit_93 : decode cX2_readUnit 93 = .ok (.aload_n 1, 1) := by decide +kernel
theorem dX2_readUnit_94 : decode cX2_readUnit 94 = .ok (.invokestatic 83, 3) := by decide +kernel
theorem dX2_readUnit_97 : decode cX2_readUnit 97 = .ok (.istore 4, 2) := by decide +kernel
theorem dX2_readUnit_99 : decode cX2_readUnit 99 = .ok (.iload 4, 2) := by decide +kernel
theorem dX2_readUnit_101 : decode cX2_readUnit 101 = .ok (.iconst (-1), 1) := by decide +kernel
theorem dX2_readUnit_102 : decode cX2_readUnit 102 = .ok (.if_icmp .ne 13, 3) := by decide +kernel
theorem dX2_readUnit_105 : decode cX2_readUnit 105 = .ok (.aload_n 1, 1) := by decide +kernel
theorem dX2_readUnit_106 : decode cX2_readUnit 106 = .ok (.iconst 1, 1) := by decide +kernel
theorem dX2_readUnit_107 : decode cX2_readUnit 107 = .ok (.aload_n 1, 1) := by decide +kernel
theorem dX2_readUnit_108 : decode cX2_readUnit 108 = .ok (.getfield 87, 3) := by decide +kernel
theorem dX2_readUnit_111 : decode cX2_readUnit 111 = .ok (.invokevirtual 90, 3) := by decide +kernel
theorem dX2_readUnit_114 : decode cX2_readUnit 114 = .ok (.ireturn, 1) := by decide +kernel
theorem dX2_readUnit_115 : decode cX2_readUnit 115 = .ok (.aload_n 0, 1) := by decide +kernel
theorem dX2_readUnit_116 : decode cX2_readUnit 116 = .ok (.iconst 1, 1) := by decide +kernel
theorem dX2_readUnit_117 : decode cX2_readUnit 117 = .ok (.iload 4, 2) := by decide +kernel
theorem dX2_readUnit_119 : decode cX2_readUnit 119 = .ok (.invokevirtual 31, 3) := by decide +kernel
theorem dX2_readUnit_122 : decode cX2_readUnit 122 = .ok (.iconst 1, 1) := by decide +kernel
theorem dX2_readUnit_123 : decode cX2_readUnit 123 = .ok (.ireturn, 1) := by decide +kernel
theorem dX2_readGroup_0 : decode cX2_readGroup 0 = .ok (.iload_n 2, 1) := by decide +kernel
theorem dX2_readGroup_1 : decode cX2_readGroup 1 = .ok (.bipush 6, 2) := by decide +kernel
theorem dX2_readGroup_3 : decode cX2_readGroup 3 = .ok (.if_icmp .lt 13, 3) := by decide +kernel
theorem dX2_readGroup_6 : decode cX2_readGroup 6 = .ok (.aload_n 1, 1) := by decide +kernel
theorem dX2_readGroup_7 : decode cX2_readGroup 7 = .ok (.iconst 3, 1) := by decide +kernel
theorem dX2_readGroup_8 : decode cX2_readGroup 8 = .ok (.aload_n 1, 1) := by decide +kernel
theorem dX2_readGroup_9 : decode cX2_readGroup 9 = .ok (.getfield 94, 3) := by decide +kernel
theorem dX2_readGroup_12 : decode cX2_readGroup 12 = .ok (.invokevirtual 90, 3) := by decide +kernel
theorem dX2_readGroup_15 : decode cX2_readGroup 15 = .ok (.ireturn, 1) := by decide +kernel
theorem dX2_readGroup_16 : decode cX2_readGroup 16 = .ok (.aload_n 1, 1) := by decide +kernel
theorem dX2_readGroup_17 : decode cX2_readGroup 17 = .ok (.bipush 40, 2) := by decide +kernel
theorem dX2_readGroup_19 : decode cX2_readGroup 19 = .ok (.invokevirtual 51, 3) := by decide +kernel
theorem dX2_readGroup_22 : decode cX2_readGroup 22 = .ok (.ifCond .eq 27, 3) := by decide +kernel
theorem dX2_readGroup_25 : decode cX2_readGroup 25 = .ok (.aload_n 0, 1) := by decide +kernel
theorem dX2_readGroup_26 : decode cX2_readGroup 26 = .ok (.aload_n 1, 1) := by decide +kernel
theorem dX2_readGroup_27 : decode cX2_readGroup 27 = .ok (.iload_n 2, 1) := by decide +kernel
theorem dX2_readGroup_28 : decode cX2_readGroup 28 = .ok (.iconst 1, 1) := by decide +kernel
theorem dX2_readGroup_29 : decode cX2_readGroup 29 = .ok (.iadd, 1) := by decide +kernel
theorem dX2_readGroup_30 : decode cX2_readGroup 30 = .ok (.invokevirtual 97, 3) := by decide +kernel
theorem dX2_readGroup_33 : decode cX2_readGroup 33 = .ok (.ifCond .eq 16, 3) := by decide +kernel
theorem dX2_readGroup_36 : decode cX2_readGroup 36 = .ok (.aload_n 1, 1) := by decide +kernel
theorem dX2_readGroup_37 : decode cX2_readGroup 37 = .ok (.bipush 41, 2) := by decide +kernel
theorem dX2_readGroup_39 : decode cX2_readGroup 39 = .ok (.invokevirtual 51, 3) := by decide +kernel
theorem dX2_readGroup_42 : decode cX2_readGroup 42 = .ok (.ifCond .eq 7, 3) := by decide +kernel
theorem dX2_readGroup_45 : decode cX2_readGroup 45 = .ok (.iconst 1, 1) := by decide +kernel
theorem dX2_readGroup_46 : decode cX2_readGroup 46 = .ok (.goto 4, 3) := by decide +kernel
theorem dX2_readGroup_49 : decode cX2_readGroup 49 = .ok (.iconst 0, 1) := by decide +kernel
theorem dX2_readGroup_50 : decode cX2_readGroup 50 = .ok (.ireturn, 1) := by decide +kernel
theorem dX2_readPair_0 : decode cX2_readPair 0 = .ok (.iload_n 2, 1) := by decide +kernel
theorem dX2_readPair_1 : decode cX2_readPair 1 = .ok (.bipush 6, 2) := by decide +kernel
theorem dX2_readPair_3 : decode cX2_readPair 3 = .ok (.if_icmp .lt 13, 3) := by decide +kernel
theorem dX2_readPair_6 : decode cX2_readPair 6 = .ok (.aload_n 1, 1) := by decide +kernel
theorem dX2_readPair_7 : decode cX2_readPair 7 = .ok (.iconst 3, 1) := by decide +kernel
theorem dX2_readPair_8 : decode cX2_readPair 8 = .ok (.aload_n 1, 1) := by decide +kernel
theorem dX2_readPair_9 : decode cX2_readPair 9 = .ok (.getfield 87, 3) := by decide +kernel
theorem dX2_readPair_12 : decode cX2_readPair 12 = .ok (.invokevirtual 90, 3) := by decide +kernel
theorem dX2_readPair_15 : decode cX2_readPair 15 = .ok (.ireturn, 1) := by decide +kernel
theorem dX2_readPair_16 : decode cX2_readPair 16 = .ok (.aload_n 1, 1) := by decide +kernel
theorem dX2_readPair_17 : decode cX2_readPair 17 = .ok (.bipush 91, 2) := by decide +kernel
theorem dX2_readPair_19 : decode cX2_readPair 19 = .ok (.invokevirtual 51, 3) := by decide +kernel
theorem dX2_readPair_22 : decode cX2_readPair 22 = .ok (.ifCond .eq 47, 3) := by decide +kernel
theorem dX2_readPair_25 : decode cX2_readPair 25 = .ok (.aload_n 0, 1) := by decide +kernel
theorem dX2_readPair_26 : decode cX2_readPair 26 = .ok (.aload_n 1, 1) := by decide +kernel
theorem dX2_readPair_27 : decode cX2_readPair 27 = .ok (.iload_n 2, 1) := by decide +kernel
theorem dX2_readPair_28 : decode cX2_readPair 28 = .ok (.iconst 1, 1) := by decide +kernel
theorem dX2_readPair_29 : decode cX2_readPair 29 = .ok (.iadd, 1) := by decide +kernel
theorem dX2_readPair_30 : decode cX2_readPair 30 = .ok (.invokevirtual 97, 3) := by decide +kernel
theorem dX2_readPair_33 : decode cX2_readPair 33 = .ok (.ifCond .eq 36, 3) := by decide +kernel
theorem dX2_readPair_36 : decode cX2_readPair 36 = .ok (.aload_n 1, 1) := by decide +kernel
theorem dX2_readPair_37 : decode cX2_readPair 37 = .ok (.bipush 44, 2) := by decide +kernel
theorem dX2_readPair_39 : decode cX2_readPair 39 = .ok (.invokevirtual 51, 3) := by decide +kernel
theorem dX2_readPair_42 : decode cX2_readPair 42 = .ok (.ifCond .eq 27, 3) := by decide +kernel
theorem dX2_readPair_45 : decode cX2_readPair 45 = .ok (.aload_n 0, 1) := by decide +kernel
theorem dX2_readPair_46 : decode cX2_readPair 46 = .ok (.aload_n 1, 1) := by decide +kernel
theorem dX2_readPair_47 : decode cX2_readPair 47 = .ok (.iload_n 2, 1) := by decide +kernel
theorem dX2_readPair_48 : decode cX2_readPair 48 = .ok (.iconst 1, 1) := by decide +kernel
theorem dX2_readPair_49 : decode cX2_readPair 49 = .ok (.iadd, 1) := by decide +kernel
theorem dX2_readPair_50 : decode cX2_readPair 50 = .ok (.invokevirtual 97, 3) := by decide +kernel
theorem dX2_readPair_53 : decode cX2_readPair 53 = .ok (.ifCond .eq 16, 3) := by decide +kernel
theorem dX2_readPair_56 : decode cX2_readPair 56 = .ok (.aload_n 1, 1) := by decide +kernel
theorem dX2_readPair_57 : decode cX2_readPair 57 = .ok (.bipush 93, 2) := by decide +kernel
theorem dX2_readPair_59 : decode cX2_readPair 59 = .ok (.invokevirtual 51, 3) := by decide +kernel
theorem dX2_readPair_62 : decode cX2_readPair 62 = .ok (.ifCond .eq 7, 3) := by decide +kernel
theorem dX2_readPair_65 : decode cX2_readPair 65 = .ok (.iconst 1, 1) := by decide +kernel
theorem dX2_readPair_66 : decode cX2_readPair 66 = .ok (.goto 4, 3) := by decide +kernel
theorem dX2_readPair_69 : decode cX2_readPair 69 = .ok (.iconst 0, 1) := by decide +kernel
theorem dX2_readPair_70 : decode cX2_readPair 70 = .ok (.istore 4, 2) := by decide +kernel
theorem dX2_readPair_72 : decode cX2_readPair 72 = .ok (.aload_n 0, 1) := by decide +kernel
theorem dX2_readPair_73 : decode cX2_readPair 73 = .ok (.iload_n 3, 1) := by decide +kernel
theorem dX2_readPair_74 : decode cX2_readPair 74 = .ok (.iconst 0, 1) := by decide +kernel
theorem dX2_readPair_75 : decode cX2_readPair 75 = .ok (.invokevirtual 31, 3) := by decide +kernel
theorem dX2_readPair_78 : decode cX2_readPair 78 = .ok (.iload 4, 2) := by decide +kernel
theorem dX2_readPair_80 : decode cX2_readPair 80 = .ok (.ireturn, 1) := by decide +kernel
theorem dX2_factNamed_0 : decode cX2_factNamed 0 = .ok (.aload_n 0, 1) := by decide +kernel
theorem dX2_factNamed_1 : decode cX2_factNamed 1 = .ok (.ldc 100, 2) := by decide +kernel
theorem dX2_factNamed_3 : decode cX2_factNamed 3 = .ok (.invokevirtual 73, 3) := by decide +kernel
theorem dX2_factNamed_6 : decode cX2_factNamed 6 = .ok (.ifCond .eq 5, 3) := by decide +kernel
theorem dX2_factNamed_9 : decode cX2_factNamed 9 = .ok (.iconst 0, 1) := by decide +kernel
theorem dX2_factNamed_10 : decode cX2_factNamed 10 = .ok (.ireturn, 1) := by decide +kernel
theorem dX2_factNamed_11 : decode cX2_factNamed 11 = .ok (.aload_n 0, 1) := by decide +kernel
theorem dX2_factNamed_12 : decode cX2_factNamed 12 = .ok (.ldc 102, 2) := by decide +kernel
theorem dX2_factNamed_14 : decode cX2_factNamed 14 = .ok (.invokevirtual 73, 3) := by decide +kernel
theorem dX2_factNamed_17 : decode cX2_factNamed 17 = .ok (.ifCond .eq 5, 3) := by decide +kernel
theorem dX2_factNamed_20 : decode cX2_factNamed 20 = .ok (.iconst 1, 1) := by decide +kernel
theorem dX2_factNamed_21 : decode cX2_factNamed 21 = .ok (.ireturn, 1) := by decide +kernel
theorem dX2_factNamed_22 : decode cX2_factNamed 22 = .ok (.aload_n 0, 1) := by decide +kernel
theorem dX2_factNamed_23 : decode cX2_factNamed 23 = .ok (.ldc 104, 2) := by decide +kernel
theorem dX2_factNamed_25 : decode cX2_factNamed 25 = .ok (.invokevirtual 73, 3) := by decide +kernel
theorem dX2_factNamed_28 : decode cX2_factNamed 28 = .ok (.ifCond .eq 5, 3) := by decide +kernel
theorem dX2_factNamed_31 : decode cX2_factNamed 31 = .ok (.iconst 2, 1) := by decide +kernel
theorem dX2_factNamed_32 : decode cX2_factNamed 32 = .ok (.ireturn, 1) := by decide +kernel
theorem dX2_factNamed_33 : decode cX2_factNamed 33 = .ok (.aload_n 0, 1) := by decide +kernel
theorem dX2_factNamed_34 : decode cX2_factNamed 34 = .ok (.ldc 106, 2) := by decide +kernel
theorem dX2_factNamed_36 : decode cX2_factNamed 36 = .ok (.invokevirtual 73, 3) := by decide +kernel
theorem dX2_factNamed_39 : decode cX2_factNamed 39 = .ok (.ifCond .eq 5, 3) := by decide +kernel
theorem dX2_factNamed_42 : decode cX2_factNamed 42 = .ok (.iconst 3, 1) := by decide +kernel
theorem dX2_factNamed_43 : decode cX2_factNamed 43 = .ok (.ireturn, 1) := by decide +kernel
theorem dX2_factNamed_44 : decode cX2_factNamed 44 = .ok (.aload_n 0, 1) := by decide +kernel
theorem dX2_factNamed_45 : decode cX2_factNamed 45 = .ok (.ldc 108, 2) := by decide +kernel
theorem dX2_factNamed_47 : decode cX2_factNamed 47 = .ok (.invokevirtual 73, 3) := by decide +kernel
theorem dX2_factNamed_50 : decode cX2_factNamed 50 = .ok (.ifCond .eq 5, 3) := by decide +kernel
theorem dX2_factNamed_53 : decode cX2_factNamed 53 = .ok (.iconst 4, 1) := by decide +kernel
theorem dX2_factNamed_54 : decode cX2_factNamed 54 = .ok (.ireturn, 1) := by decide +kernel
theorem dX2_factNamed_55 : decode cX2_factNamed 55 = .ok (.aload_n 0, 1) := by decide +kernel
theorem dX2_factNamed_56 : decode cX2_factNamed 56 = .ok (.ldc 110, 2) := by decide +kernel
theorem dX2_factNamed_58 : decode cX2_factNamed 58 = .ok (.invokevirtual 73, 3) := by decide +kernel
theorem dX2_factNamed_61 : decode cX2_factNamed 61 = .ok (.ifCond .eq 5, 3) := by decide +kernel
theorem dX2_factNamed_64 : decode cX2_factNamed 64 = .ok (.iconst 5, 1) := by decide +kernel
theorem dX2_factNamed_65 : decode cX2_factNamed 65 = .ok (.ireturn, 1) := by decide +kernel
theorem dX2_factNamed_66 : decode cX2_factNamed 66 = .ok (.aload_n 0, 1) := by decide +kernel
theorem dX2_factNamed_67 : decode cX2_factNamed 67 = .ok (.ldc 112, 2) := by decide +kernel
theorem dX2_factNamed_69 : decode cX2_factNamed 69 = .ok (.invokevirtual 73, 3) := by decide +kernel
theorem dX2_factNamed_72 : decode cX2_factNamed 72 = .ok (.ifCond .eq 6, 3) := by decide +kernel
theorem dX2_factNamed_75 : decode cX2_factNamed 75 = .ok (.bipush 6, 2) := by decide +kernel
theorem dX2_factNamed_77 : decode cX2_factNamed 77 = .ok (.ireturn, 1) := by decide +kernel
theorem dX2_factNamed_78 : decode cX2_factNamed 78 = .ok (.aload_n 0, 1) := by decide +kernel
theorem dX2_factNamed_79 : decode cX2_factNamed 79 = .ok (.ldc 114, 2) := by decide +kernel
theorem dX2_factNamed_81 : decode cX2_factNamed 81 = .ok (.invokevirtual 73, 3) := by decide +kernel
theorem dX2_factNamed_84 : decode cX2_factNamed 84 = .ok (.ifCond .eq 8, 3) := by decide +kernel
theorem dX2_factNamed_87 : decode cX2_factNamed 87 = .ok (.bipush 7, 2) := by decide +kernel
theorem dX2_factNamed_89 : decode cX2_factNamed 89 = .ok (.goto 4, 3) := by decide +kernel
theorem dX2_factNamed_92 : decode cX2_factNamed 92 = .ok (.iconst (-1), 1) := by decide +kernel
theorem dX2_factNamed_93 : decode cX2_factNamed 93 = .ok (.ireturn, 1) := by decide +kernel
theorem dX2_feeFor_0 : decode cX2_feeFor 0 = .ok (.iconst 0, 1) := by decide +kernel
theorem dX2_feeFor_1 : decode cX2_feeFor 1 = .ok (.istore_n 2, 1) := by decide +kernel
theorem dX2_feeFor_2 : decode cX2_feeFor 2 = .ok (.iconst 0, 1) := by decide +kernel
theorem dX2_feeFor_3 : decode cX2_feeFor 3 = .ok (.istore_n 3, 1) := by decide +kernel
theorem dX2_feeFor_4 : decode cX2_feeFor 4 = .ok (.iload_n 3, 1) := by decide +kernel
theorem dX2_feeFor_5 : decode cX2_feeFor 5 = .ok (.aload_n 0, 1) := by decide +kernel
theorem dX2_feeFor_6 : decode cX2_feeFor 6 = .ok (.getfield 24, 3) := by decide +kernel
theorem dX2_feeFor_9 : decode cX2_feeFor 9 = .ok (.if_icmp .ge 117, 3) := by decide +kernel
theorem dX2_feeFor_12 : decode cX2_feeFor 12 = .ok (.aload_n 0, 1) := by decide +kernel
theorem dX2_feeFor_13 : decode cX2_feeFor 13 = .ok (.getfield 9, 3) := by decide +kernel
theorem dX2_feeFor_16 : decode cX2_feeFor 16 = .ok (.iload_n 3, 1) := by decide +kernel
theorem dX2_feeFor_17 : decode cX2_feeFor 17 = .ok (.iaload, 1) := by decide +kernel
theorem dX2_feeFor_18 : decode cX2_feeFor 18 = .ok (.istore 4, 2) := by decide +kernel
theorem dX2_feeFor_20 : decode cX2_feeFor 20 = .ok (.aload_n 0, 1) := by decide +kernel
theorem dX2_feeFor_21 : decode cX2_feeFor 21 = .ok (.getfield 15, 3) := by decide +kernel
theorem dX2_feeFor_24 : decode cX2_feeFor 24 = .ok (.iload_n 3, 1) := by decide +kernel
theorem dX2_feeFor_25 : decode cX2_feeFor 25 = .ok (.iaload, 1) := by decide +kernel
theorem dX2_feeFor_26 : decode cX2_feeFor 26 = .ok (.istore 5, 2) := by decide +kernel
theorem dX2_feeFor_28 : decode cX2_feeFor 28 = .ok (.iload 4, 2) := by decide +kernel
theorem dX2_feeFor_30 : decode cX2_feeFor 30 = .ok (.ifCond .eq 9, 3) := by decide +kernel
theorem dX2_feeFor_33 : decode cX2_feeFor 33 = .ok (.iload 4, 2) := by decide +kernel
theorem dX2_feeFor_35 : decode cX2_feeFor 35 = .ok (.iconst 1, 1) := by decide +kernel
theorem dX2_feeFor_36 : decode cX2_feeFor 36 = .ok (.if_icmp .ne 49, 3) := by decide +kernel
theorem dX2_feeFor_39 : decode cX2_feeFor 39 = .ok (.iload_n 2, 1) := by decide +kernel
theorem dX2_feeFor_40 : decode cX2_feeFor 40 = .ok (.sipush 150, 3) := by decide +kernel
theorem dX2_feeFor_43 : decode cX2_feeFor 43 = .ok (.if_icmp .ge 77, 3) := by decide +kernel
theorem dX2_feeFor_46 : decode cX2_feeFor 46 = .ok (.iload 5, 2) := by decide +kernel
theorem dX2_feeFor_48 : decode cX2_feeFor 48 = .ok (.ifCond .lt 72, 3) := by decide +kernel
theorem dX2_feeFor_51 : decode cX2_feeFor 51 = .ok (.aload_n 0, 1) := by decide +kernel
theorem dX2_feeFor_52 : decode cX2_feeFor 52 = .ok (.getfield 18, 3) := by decide +kernel
theorem dX2_feeFor_55 : decode cX2_feeFor 55 = .ok (.iload_n 2, 1) := by decide +kernel
theorem dX2_feeFor_56 : decode cX2_feeFor 56 = .ok (.iload 4, 2) := by decide +kernel
theorem dX2_feeFor_58 : decode cX2_feeFor 58 = .ok (.iconst 1, 1) := by decide +kernel
theorem dX2_feeFor_59 : decode cX2_feeFor 59 = .ok (.if_icmp .ne 17, 3) := by decide +kernel
theorem dX2_feeFor_62 : decode cX2_feeFor 62 = .ok (.iload 5, 2) := by decide +kernel
theorem dX2_feeFor_64 : decode cX2_feeFor 64 = .ok (.aload_n 1, 1) := by decide +kernel
theorem dX2_feeFor_65 : decode cX2_feeFor 65 = .ok (.arraylength, 1) := by decide +kernel
theorem dX2_feeFor_66 : decode cX2_feeFor 66 = .ok (.if_icmp .ge 10, 3) := by decide +kernel
theorem dX2_feeFor_69 : decode cX2_feeFor 69 = .ok (.aload_n 1, 1) := by decide +kernel
theorem dX2_feeFor_70 : decode cX2_feeFor 70 = .ok (.iload 5, 2) := by decide +kernel
theorem dX2_feeFor_72 : decode cX2_feeFor 72 = .ok (.iaload, 1) := by decide +kernel
theorem dX2_feeFor_73 : decode cX2_feeFor 73 = .ok (.goto 5, 3) := by decide +kernel
theorem dX2_feeFor_76 : decode cX2_feeFor 76 = .ok (.iload 5, 2) := by decide +kernel
theorem dX2_feeFor_78 : decode cX2_feeFor 78 = .ok (.iastore, 1) := by decide +kernel
theorem dX2_feeFor_79 : decode cX2_feeFor 79 = .ok (.iinc 2 1, 3) := by decide +kernel
theorem dX2_feeFor_82 : decode cX2_feeFor 82 = .ok (.goto 38, 3) := by decide +kernel
theorem dX2_feeFor_85 : decode cX2_feeFor 85 = .ok (.iload_n 2, 1) := by decide +kernel
theorem dX2_feeFor_86 : decode cX2_feeFor 86 = .ok (.iconst 2, 1) := by decide +kernel
theorem dX2_feeFor_87 : decode cX2_feeFor 87 = .ok (.if_icmp .lt 33, 3) := by decide +kernel
theorem dX2_feeFor_90 : decode cX2_feeFor 90 = .ok (.iinc 2 (-1), 3) := by decide +kernel
theorem dX2_feeFor_93 : decode cX2_feeFor 93 = .ok (.aload_n 0, 1) := by decide +kernel
theorem dX2_feeFor_94 : decode cX2_feeFor 94 = .ok (.getfield 18, 3) := by decide +kernel
theorem dX2_feeFor_97 : decode cX2_feeFor 97 = .ok (.iload_n 2, 1) := by decide +kernel
theorem dX2_feeFor_98 : decode cX2_feeFor 98 = .ok (.iconst 1, 1) := by decide +kernel
theorem dX2_feeFor_99 : decode cX2_feeFor 99 = .ok (.isub, 1) := by decide +kernel
theorem dX2_feeFor_100 : decode cX2_feeFor 100 = .ok (.iload 4, 2) := by decide +kernel
theorem dX2_feeFor_102 : decode cX2_feeFor 102 = .ok (.aload_n 0, 1) := by decide +kernel
theorem dX2_feeFor_103 : decode cX2_feeFor 103 = .ok (.getfield 18, 3) := by decide +kernel
theorem dX2_feeFor_106 : decode cX2_feeFor 106 = .ok (.iload_n 2, 1) := by decide +kernel
theorem dX2_feeFor_107 : decode cX2_feeFor 107 = .ok (.iconst 1, 1) := by decide +kernel
theorem dX2_feeFor_108 : decode cX2_feeFor 108 = .ok (.isub, 1) := by decide +kernel
theorem dX2_feeFor_109 : decode cX2_feeFor 109 = .ok (.iaload, 1) := by decide +kernel
theorem dX2_feeFor_110 : decode cX2_feeFor 110 = .ok (.aload_n 0, 1) := by decide +kernel
theorem dX2_feeFor_111 : decode cX2_feeFor 111 = .ok (.getfield 18, 3) := by decide +kernel
theorem dX2_feeFor_114 : decode cX2_feeFor 114 = .ok (.iload_n 2, 1) := by decide +kernel
theorem dX2_feeFor_115 : decode cX2_feeFor 115 = .ok (.iaload, 1) := by decide +kernel
theorem dX2_feeFor_116 : decode cX2_feeFor 116 = .ok (.invokestatic 116, 3) := by decide +kernel
theorem dX2_feeFor_119 : decode cX2_feeFor 119 = .ok (.iastore, 1) := by decide +kernel
theorem dX2_feeFor_120 : decode cX2_feeFor 120 = .ok (.iinc 3 1, 3) := by decide +kernel
theorem dX2_feeFor_123 : decode cX2_feeFor 123 = .ok (.goto (-119), 3) := by decide +kernel
theorem dX2_feeFor_126 : decode cX2_feeFor 126 = .ok (.iconst 0, 1) := by decide +kernel
theorem dX2_feeFor_127 : decode cX2_feeFor 127 = .ok (.bipush 99, 2) := by decide +kernel
theorem dX2_feeFor_129 : decode cX2_feeFor 129 = .ok (.aload_n 0, 1) := by decide +kernel
theorem dX2_feeFor_130 : decode cX2_feeFor 130 = .ok (.getfield 18, 3) := by decide +kernel
theorem dX2_feeFor_133 : decode cX2_feeFor 133 = .ok (.iconst 0, 1) := by decide +kernel
theorem dX2_feeFor_134 : decode cX2_feeFor 134 = .ok (.iaload, 1) := by decide +kernel
theorem dX2_feeFor_135 : decode cX2_feeFor 135 = .ok (.invokestatic 120, 3) := by decide +kernel
theorem dX2_feeFor_138 : decode cX2_feeFor 138 = .ok (.invokestatic 126, 3) := by decide +kernel
theorem dX2_feeFor_141 : decode cX2_feeFor 141 = .ok (.ireturn, 1) := by decide +kernel
theorem dX2_joined_0 : decode cX2_joined 0 = .ok (.iload_n 0, 1) := by decide +kernel
theorem dX2_joined_1 : decode cX2_joined 1 = .ok (.tableswitch 86 2 7 #[39, 43, 47, 51, 63, 75], 39) := by decide +kernel
theorem dX2_joined_40 : decode cX2_joined 40 = .ok (.iload_n 1, 1) := by decide +kernel
theorem dX2_joined_41 : decode cX2_joined 41 = .ok (.iload_n 2, 1) := by decide +kernel
theorem dX2_joined_42 : decode cX2_joined 42 = .ok (.iadd, 1) := by decide +kernel
theorem dX2_joined_43 : decode cX2_joined 43 = .ok (.ireturn, 1) := by decide +kernel
theorem dX2_joined_44 : decode cX2_joined 44 = .ok (.iload_n 1, 1) := by decide +kernel
theorem dX2_joined_45 : decode cX2_joined 45 = .ok (.iload_n 2, 1) := by decide +kernel
theorem dX2_joined_46 : decode cX2_joined 46 = .ok (.isub, 1) := by decide +kernel
theorem dX2_joined_47 : decode cX2_joined 47 = .ok (.ireturn, 1) := by decide +kernel
theorem dX2_joined_48 : decode cX2_joined 48 = .ok (.iload_n 1, 1) := by decide +kernel
theorem dX2_joined_49 : decode cX2_joined 49 = .ok (.iload_n 2, 1) := by decide +kernel
theorem dX2_joined_50 : decode cX2_joined 50 = .ok (.imul, 1) := by decide +kernel
theorem dX2_joined_51 : decode cX2_joined 51 = .ok (.ireturn, 1) := by decide +kernel
theorem dX2_joined_52 : decode cX2_joined 52 = .ok (.iload_n 2, 1) := by decide +kernel
theorem dX2_joined_53 : decode cX2_joined 53 = .ok (.ifCond .ne 7, 3) := by decide +kernel
theorem dX2_joined_56 : decode cX2_joined 56 = .ok (.iconst 0, 1) := by decide +kernel
theorem dX2_joined_57 : decode cX2_joined 57 = .ok (.goto 6, 3) := by decide +kernel
theorem dX2_joined_60 : decode cX2_joined 60 = .ok (.iload_n 1, 1) := by decide +kernel
theorem dX2_joined_61 : decode cX2_joined 61 = .ok (.iload_n 2, 1) := by decide +kernel
theorem dX2_joined_62 : decode cX2_joined 62 = .ok (.idiv, 1) := by decide +kernel
theorem dX2_joined_63 : decode cX2_joined 63 = .ok (.ireturn, 1) := by decide +kernel
theorem dX2_joined_64 : decode cX2_joined 64 = .ok (.iload_n 2, 1) := by decide +kernel
theorem dX2_joined_65 : decode cX2_joined 65 = .ok (.ifCond .ne 7, 3) := by decide +kernel
theorem dX2_joined_68 : decode cX2_joined 68 = .ok (.iconst 0, 1) := by decide +kernel
theorem dX2_joined_69 : decode cX2_joined 69 = .ok (.goto 6, 3) := by decide +kernel
theorem dX2_joined_72 : decode cX2_joined 72 = .ok (.iload_n 1, 1) := by decide +kernel
theorem dX2_joined_73 : decode cX2_joined 73 = .ok (.iload_n 2, 1) := by decide +kernel
theorem dX2_joined_74 : decode cX2_joined 74 = .ok (.irem, 1) := by decide +kernel
theorem dX2_joined_75 : decode cX2_joined 75 = .ok (.ireturn, 1) := by decide +kernel
theorem dX2_joined_76 : decode cX2_joined 76 = .ok (.iload_n 1, 1) := by decide +kernel
theorem dX2_joined_77 : decode cX2_joined 77 = .ok (.iload_n 2, 1) := by decide +kernel
theorem dX2_joined_78 : decode cX2_joined 78 = .ok (.if_icmp .ge 7, 3) := by decide +kernel
theorem dX2_joined_81 : decode cX2_joined 81 = .ok (.iload_n 1, 1) := by decide +kernel
theorem dX2_joined_82 : decode cX2_joined 82 = .ok (.goto 4, 3) := by decide +kernel
theorem dX2_joined_85 : decode cX2_joined 85 = .ok (.iload_n 2, 1) := by decide +kernel
theorem dX2_joined_86 : decode cX2_joined 86 = .ok (.ireturn, 1) := by decide +kernel
theorem dX2_joined_87 : decode cX2_joined 87 = .ok (.iload_n 1, 1) := by decide +kernel
theorem dX2_joined_88 : decode cX2_joined 88 = .ok (.iload_n 2, 1) := by decide +kernel
theorem dX2_joined_89 : decode cX2_joined 89 = .ok (.if_icmp .le 7, 3) := by decide +kernel
theorem dX2_joined_92 : decode cX2_joined 92 = .ok (.iload_n 1, 1) := by decide +kernel
theorem dX2_joined_93 : decode cX2_joined 93 = .ok (.goto 4, 3) := by decide +kernel
theorem dX2_joined_96 : decode cX2_joined 96 = .ok (.iload_n 2, 1) := by decide +kernel
theorem dX2_joined_97 : decode cX2_joined 97 = .ok (.ireturn, 1) := by decide +kernel
theorem dX3_init_0 : decode cX3_init 0 = .ok (.aload_n 0, 1) := by decide +kernel
theorem dX3_init_1 : decode cX3_init 1 = .ok (.invokespecial 7, 3) := by decide +kernel
theorem dX3_init_4 : decode cX3_init 4 = .ok (.aload_n 0, 1) := by decide +kernel
theorem dX3_init_5 : decode cX3_init 5 = .ok (.sipush 720, 3) := by decide +kernel
theorem dX3_init_8 : decode cX3_init 8 = .ok (.newarray .int, 2) := by decide +kernel
theorem dX3_init_10 : decode cX3_init 10 = .ok (.putfield 13, 3) := by decide +kernel
theorem dX3_init_13 : decode cX3_init 13 = .ok (.aload_n 0, 1) := by decide +kernel
theorem dX3_init_14 : decode cX3_init 14 = .ok (.iconst 3, 1) := by decide +kernel
theorem dX3_init_15 : decode cX3_init 15 = .ok (.sipush 766, 3) := by decide +kernel
theorem dX3_init_18 : decode cX3_init 18 = .ok (.multianewarray 17 2, 4) := by decide +kernel
theorem dX3_init_22 : decode cX3_init 22 = .ok (.putfield 19, 3) := by decide +kernel
theorem dX3_init_25 : decode cX3_init 25 = .ok (.return_, 1) := by decide +kernel
theorem dX3_clear_0 : decode cX3_clear 0 = .ok (.aload_n 0, 1) := by decide +kernel
theorem dX3_clear_1 : decode cX3_clear 1 = .ok (.iconst 0, 1) := by decide +kernel
theorem dX3_clear_2 : decode cX3_clear 2 = .ok (.putfield 22, 3) := by decide +kernel
theorem dX3_clear_5 : decode cX3_clear 5 = .ok (.aload_n 0, 1) := by decide +kernel
theorem dX3_clear_6 : decode cX3_clear 6 = .ok (.iconst 0, 1) := by decide +kernel
theorem dX3_clear_7 : decode cX3_clear 7 = .ok (.putfield 26, 3) := by decide +kernel
theorem dX3_clear_10 : decode cX3_clear 10 = .ok (.return_, 1) := by decide +kernel
theorem dX3_keepForUndo_0 : decode cX3_keepForUndo 0 = .ok (.aload_n 0, 1) := by decide +kernel
theorem dX3_keepForUndo_1 : decode cX3_keepForUndo 1 = .ok (.getfield 22, 3) := by decide +kernel
theorem dX3_keepForUndo_4 : decode cX3_keepForUndo 4 = .ok (.bipush 16, 2) := by decide +kernel
theorem dX3_keepForUndo_6 : decode cX3_keepForUndo 6 = .ok (.if_icmp .ge 28, 3) := by decide +kernel
theorem dX3_keepForUndo_9 : decode cX3_keepForUndo 9 = .ok (.aload_n 1, 1) := by decide +kernel
theorem dX3_keepForUndo_10 : decode cX3_keepForUndo 10 = .ok (.aload_n 0, 1) := by decide +kernel
theorem dX3_keepForUndo_11 : decode cX3_keepForUndo 11 = .ok (.getfield 13, 3) := by decide +kernel
theorem dX3_keepForUndo_14 : decode cX3_keepForUndo 14 = .ok (.aload_n 0, 1) := by decide +kernel
theorem dX3_keepForUndo_15 : decode cX3_keepForUndo 15 = .ok (.getfield 22, 3) := by decide +kernel
theorem dX3_keepForUndo_18 : decode cX3_keepForUndo 18 = .ok (.bipush 45, 2) := by decide +kernel
theorem dX3_keepForUndo_20 : decode cX3_keepForUndo 20 = .ok (.imul, 1) := by decide +kernel
theorem dX3_keepForUndo_21 : decode cX3_keepForUndo 21 = .ok (.invokevirtual 29, 3) := by decide +kernel
theorem dX3_keepForUndo_24 : decode cX3_keepForUndo 24 = .ok (.aload_n 0, 1) := by decide +kernel
theorem dX3_keepForUndo_25 : decode cX3_keepForUndo 25 = .ok (.dup, 1) := by decide +kernel
theorem dX3_keepForUndo_26 : decode cX3_keepForUndo 26 = .ok (.getfield 22, 3) := by decide +kernel
theorem dX3_keepForUndo_29 : decode cX3_keepForUndo 29 = .ok (.iconst 1, 1) := by decide +kernel
theorem dX3_keepForUndo_30 : decode cX3_keepForUndo 30 = .ok (.iadd, 1) := by decide +kernel
theorem dX3_keepForUndo_31 : decode cX3_keepForUndo 31 = .ok (.putfield 22, 3) := by decide +kernel
theorem dX3_keepForUndo_34 : decode cX3_keepForUndo 34 = .ok (.return_, 1) := by decide +kernel
theorem dX3_takeBack_0 : decode cX3_takeBack 0 = .ok (.aload_n 0, 1) := by decide +kernel
theorem dX3_takeBack_1 : decode cX3_takeBack 1 = .ok (.getfield 22, 3) := by decide +kernel
theorem dX3_takeBack_4 : decode cX3_takeBack 4 = .ok (.ifCond .gt 5, 3) := by decide +kernel
theorem dX3_takeBack_7 : decode cX3_takeBack 7 = .ok (.iconst 0, 1) := by decide +kernel
theorem dX3_takeBack_8 : decode cX3_takeBack 8 = .ok (.ireturn, 1) := by decide +kernel
theorem dX3_takeBack_9 : decode cX3_takeBack 9 = .ok (.aload_n 0, 1) := by decide +kernel
theorem dX3_takeBack_10 : decode cX3_takeBack 10 = .ok (.dup, 1) := by decide +kernel
theorem dX3_takeBack_11 : decode cX3_takeBack 11 = .ok (.getfield 22, 3) := by decide +kernel
theorem dX3_takeBack_14 : decode cX3_takeBack 14 = .ok (.iconst 1, 1) := by decide +kernel
theorem dX3_takeBack_15 : decode cX3_takeBack 15 = .ok (.isub, 1) := by decide +kernel
theorem dX3_takeBack_16 : decode cX3_takeBack 16 = .ok (.putfield 22, 3) := by decide +kernel
theorem dX3_takeBack_19 : decode cX3_takeBack 19 = .ok (.aload_n 1, 1) := by decide +kernel
theorem dX3_takeBack_20 : decode cX3_takeBack 20 = .ok (.aload_n 0, 1) := by decide +kernel
theorem dX3_takeBack_21 : decode cX3_takeBack 21 = .ok (.getfield 13, 3) := by decide +kernel
theorem dX3_takeBack_24 : decode cX3_takeBack 24 = .ok (.aload_n 0, 1) := by decide +kernel
theorem dX3_takeBack_25 : decode cX3_takeBack 25 = .ok (.getfield 22, 3) := by decide +kernel
theorem dX3_takeBack_28 : decode cX3_takeBack 28 = .ok (.bipush 45, 2) := by decide +kernel
theorem dX3_takeBack_30 : decode cX3_takeBack 30 = .ok (.imul, 1) := by decide +kernel
theorem dX3_takeBack_31 : decode cX3_takeBack 31 = .ok (.invokevirtual 33, 3) := by decide +kernel
theorem dX3_takeBack_34 : decode cX3_takeBack 34 = .ok (.iconst 1, 1) := by decide +kernel
theorem dX3_takeBack_35 : decode cX3_takeBack 35 = .ok (.ireturn, 1) := by decide +kernel
theorem dX3_keepImage_0 : decode cX3_keepImage 0 = .ok (.aload_n 0, 1) := by decide +kernel
theorem dX3_keepImage_1 : decode cX3_keepImage 1 = .ok (.getfield 26, 3) := by decide +kernel
theorem dX3_keepImage_4 : decode cX3_keepImage 4 = .ok (.iconst 3, 1) := by decide +kernel
theorem dX3_keepImage_5 : decode cX3_keepImage 5 = .ok (.if_icmp .lt 5, 3) := by decide +kernel
theorem dX3_keepImage_8 : decode cX3_keepImage 8 = .ok (.iconst 0, 1) := by decide +kernel
theorem dX3_keepImage_9 : decode cX3_keepImage 9 = .ok (.ireturn, 1) := by decide +kernel
theorem dX3_keepImage_10 : decode cX3_keepImage 10 = .ok (.aload_n 0, 1) := by decide +kernel
theorem dX3_keepImage_11 : decode cX3_keepImage 11 = .ok (.getfield 19, 3) := by decide +kernel
theorem dX3_keepImage_14 : decode cX3_keepImage 14 = .ok (.aload_n 0, 1) := by decide +kernel
theorem dX3_keepImage_15 : decode cX3_keepImage 15 = .ok (.getfield 26, 3) := by decide +kernel
theorem dX3_keepImage_18 : decode cX3_keepImage 18 = .ok (.aaload, 1) := by decide +kernel
theorem dX3_keepImage_19 : decode cX3_keepImage 19 = .ok (.astore_n 2, 1) := by decide +kernel
theorem dX3_keepImage_20 : decode cX3_keepImage 20 = .ok (.aload_n 0, 1) := by decide +kernel
theorem dX3_keepImage_21 : decode cX3_keepImage 21 = .ok (.getfield 13, 3) := by decide +kernel
theorem dX3_keepImage_24 : decode cX3_keepImage 24 = .ok (.iconst 0, 1) := by decide +kernel
theorem dX3_keepImage_25 : decode cX3_keepImage 25 = .ok (.aload_n 2, 1) := by decide +kernel
theorem dX3_keepImage_26 : decode cX3_keepImage 26 = .ok (.iconst 0, 1) := by decide +kernel
theorem dX3_keepImage_27 : decode cX3_keepImage 27 = .ok (.sipush 720, 3) := by decide +kernel
theorem dX3_keepImage_30 : decode cX3_keepImage 30 = .ok (.invokestatic 36, 3) := by decide +kernel
theorem dX3_keepImage_33 : decode cX3_keepImage 33 = .ok (.aload_n 1, 1) := by decide +kernel
theorem dX3_keepImage_34 : decode cX3_keepImage 34 = .ok (.aload_n 2, 1) := by decide +kernel
theorem dX3_keepImage_35 : decode cX3_keepImage 35 = .ok (.sipush 720, 3) := by decide +kernel
theorem dX3_keepImage_38 : decode cX3_keepImage 38 = .ok (.invokevirtual 29, 3) := by decide +kernel
theorem dX3_keepImage_41 : decode cX3_keepImage 41 = .ok (.aload_n 2, 1) := by decide +kernel
theorem dX3_keepImage_42 : decode cX3_keepImage 42 = .ok (.sipush 765, 3) := by decide +kernel
theorem dX3_keepImage_45 : decode cX3_keepImage 45 = .ok (.aload_n 0, 1) := by decide +kernel
theorem dX3_keepImage_46 : decode cX3_keepImage 46 = .ok (.getfield 22, 3) := by decide +kernel
theorem dX3_keepImage_49 : decode cX3_keepImage 49 = .ok (.iastore, 1) := by decide +kernel
theorem dX3_keepImage_50 : decode cX3_keepImage 50 = .ok (.aload_n 0, 1) := by decide +kernel
theorem dX3_keepImage_51 : decode cX3_keepImage 51 = .ok (.dup, 1) := by decide +kernel
theorem dX3_keepImage_52 : decode cX3_keepImage 52 = .ok (.getfield 26, 3) := by decide +kernel
theorem dX3_keepImage_55 : decode cX3_keepImage 55 = .ok (.iconst 1, 1) := by decide +kernel
theorem dX3_keepImage_56 : decode cX3_keepImage 56 = .ok (.iadd, 1) := by decide +kernel
theorem dX3_keepImage_57 : decode cX3_keepImage 57 = .ok (.putfield 26, 3) := by decide +kernel
theorem dX3_keepImage_60 : decode cX3_keepImage 60 = .ok (.iconst 1, 1) := by decide +kernel
theorem dX3_keepImage_61 : decode cX3_keepImage 61 = .ok (.ireturn, 1) := by decide +kernel
theorem dX3_takeImage_0 : decode cX3_takeImage 0 = .ok (.aload_n 0, 1) := by decide +kernel
theorem dX3_takeImage_1 : decode cX3_takeImage 1 = .ok (.getfield 26, 3) := by decide +kernel
theorem dX3_takeImage_4 : decode cX3_takeImage 4 = .ok (.ifCond .gt 5, 3) := by decide +kernel
theorem dX3_takeImage_7 : decode cX3_takeImage 7 = .ok (.iconst 0, 1) := by decide +kernel
theorem dX3_takeImage_8 : decode cX3_takeImage 8 = .ok (.ireturn, 1) := by decide +kernel
theorem dX3_takeImage_9 : decode cX3_takeImage 9 = .ok (.aload_n 0, 1) := by decide +kernel
theorem dX3_takeImage_10 : decode cX3_takeImage 10 = .ok (.dup, 1) := by decide +kernel
theorem dX3_takeImage_11 : decode cX3_takeImage 11 = .ok (.getfield 26, 3) := by decide +kernel
theorem dX3_takeImage_14 : decode cX3_takeImage 14 = .ok (.iconst 1, 1) := by decide +kernel
theorem dX3_takeImage_15 : decode cX3_takeImage 15 = .ok (.isub, 1) := by decide +kernel
theorem dX3_takeImage_16 : decode cX3_takeImage 16 = .ok (.putfield 26, 3) := by decide +kernel
theorem dX3_takeImage_19 : decode cX3_takeImage 19 = .ok (.aload_n 0, 1) := by decide +kernel
theorem dX3_takeImage_20 : decode cX3_takeImage 20 = .ok (.getfield 19, 3) := by decide +kernel
theorem dX3_takeImage_23 : decode cX3_takeImage 23 = .ok (.aload_n 0, 1) := by decide +kernel
theorem dX3_takeImage_24 : decode cX3_takeImage 24 = .ok (.getfield 26, 3) := by decide +kernel
theorem dX3_takeImage_27 : decode cX3_takeImage 27 = .ok (.aaload, 1) := by decide +kernel
theorem dX3_takeImage_28 : decode cX3_takeImage 28 = .ok (.astore_n 2, 1) := by decide +kernel
theorem dX3_takeImage_29 : decode cX3_takeImage 29 = .ok (.aload_n 2, 1) := by decide +kernel
theorem dX3_takeImage_30 : decode cX3_takeImage 30 = .ok (.iconst 0, 1) := by decide +kernel
theorem dX3_takeImage_31 : decode cX3_takeImage 31 = .ok (.aload_n 0, 1) := by decide +kernel
theorem dX3_takeImage_32 : decode cX3_takeImage 32 = .ok (.getfield 13, 3) := by decide +kernel
theorem dX3_takeImage_35 : decode cX3_takeImage 35 = .ok (.iconst 0, 1) := by decide +kernel
theorem dX3_takeImage_36 : decode cX3_takeImage 36 = .ok (.sipush 720, 3) := by decide +kernel
theorem dX3_takeImage_39 : decode cX3_takeImage 39 = .ok (.invokestatic 36, 3) := by decide +kernel
theorem dX3_takeImage_42 : decode cX3_takeImage 42 = .ok (.aload_n 1, 1) := by decide +kernel
theorem dX3_takeImage_43 : decode cX3_takeImage 43 = .ok (.aload_n 2, 1) := by decide +kernel
theorem dX3_takeImage_44 : decode cX3_takeImage 44 = .ok (.sipush 720, 3) := by decide +kernel
theorem dX3_takeImage_47 : decode cX3_takeImage 47 = .ok (.invokevirtual 33, 3) := by decide +kernel
theorem dX3_takeImage_50 : decode cX3_takeImage 50 = .ok (.aload_n 0, 1) := by decide +kernel
theorem dX3_takeImage_51 : decode cX3_takeImage 51 = .ok (.aload_n 2, 1) := by decide +kernel
theorem dX3_takeImage_52 : decode cX3_takeImage 52 = .ok (.sipush 765, 3) := by decide +kernel
theorem dX3_takeImage_55 : decode cX3_takeImage 55 = .ok (.iaload, 1) := by decide +kernel
theorem dX3_takeImage_56 : decode cX3_takeImage 56 = .ok (.putfield 22, 3) := by decide +kernel
theorem dX3_takeImage_59 : decode cX3_takeImage 59 = .ok (.iconst 1, 1) := by decide +kernel
theorem dX3_takeImage_60 : decode cX3_takeImage 60 = .ok (.ireturn, 1) := by decide +kernel
theorem dX4_init_0 : decode cX4_init 0 = .ok (.aload_n 0, 1) := by decide +kernel
theorem dX4_init_1 : decode cX4_init 1 = .ok (.invokespecial 3, 3) := by decide +kernel
theorem dX4_init_4 : decode cX4_init 4 = .ok (.aload_n 0, 1) := by decide +kernel
theorem dX4_init_5 : decode cX4_init 5 = .ok (.sipush 150, 3) := by decide +kernel
theorem dX4_init_8 : decode cX4_init 8 = .ok (.newarray .int, 2) := by decide +kernel
theorem dX4_init_10 : decode cX4_init 10 = .ok (.putfield 9, 3) := by decide +kernel
theorem dX4_init_13 : decode cX4_init 13 = .ok (.aload_n 0, 1) := by decide +kernel
theorem dX4_init_14 : decode cX4_init 14 = .ok (.sipush 150, 3) := by decide +kernel
theorem dX4_init_17 : decode cX4_init 17 = .ok (.newarray .int, 2) := by decide +kernel
theorem dX4_init_19 : decode cX4_init 19 = .ok (.putfield 15, 3) := by decide +kernel
theorem dX4_init_22 : decode cX4_init 22 = .ok (.aload_n 0, 1) := by decide +kernel
theorem dX4_init_23 : decode cX4_init 23 = .ok (.sipush 150, 3) := by decide +kernel
theorem dX4_init_26 : decode cX4_init 26 = .ok (.newarray .int, 2) := by decide +kernel
theorem dX4_init_28 : decode cX4_init 28 = .ok (.putfield 18, 3) := by decide +kernel
theorem dX4_init_31 : decode cX4_init 31 = .ok (.return_, 1) := by decide +kernel
theorem dX4_readWhole_0 : decode cX4_readWhole 0 = .ok (.aload_n 0, 1) := by decide +kernel
theorem dX4_readWhole_1 : decode cX4_readWhole 1 = .ok (.iconst 0, 1) := by decide +kernel
theorem dX4_readWhole_2 : decode cX4_readWhole 2 = .ok (.putfield 21, 3) := by decide +kernel
theorem dX4_readWhole_5 : decode cX4_readWhole 5 = .ok (.aload_n 0, 1) := by decide +kernel
theorem dX4_readWhole_6 : decode cX4_readWhole 6 = .ok (.iload_n 2, 1) := by decide +kernel
theorem dX4_readWhole_7 : decode cX4_readWhole 7 = .ok (.putfield 25, 3) := by decide +kernel
theorem dX4_readWhole_10 : decode cX4_readWhole 10 = .ok (.aload_n 0, 1) := by decide +kernel
theorem dX4_readWhole_11 : decode cX4_readWhole 11 = .ok (.iload_n 3, 1) := by decide +kernel
theorem dX4_readWhole_12 : decode cX4_readWhole 12 = .ok (.putfield 28, 3) := by decide +kernel
theorem dX4_readWhole_15 : decode cX4_readWhole 15 = .ok (.aload_n 0, 1) := by decide +kernel
theorem dX4_readWhole_16 : decode cX4_readWhole 16 = .ok (.aload_n 1, 1) := by decide +kernel
theorem dX4_readWhole_17 : decode cX4_readWhole 17 = .ok (.iconst 0, 1) := by decide +kernel
theorem dX4_readWhole_18 : decode cX4_readWhole 18 = .ok (.invokevirtual 31, 3) := by decide +kernel
theorem dX4_readWhole_21 : decode cX4_readWhole 21 = .ok (.ireturn, 1) := by decide +kernel
theorem dX4_readSteps_0 : decode cX4_readSteps 0 = .ok (.iconst 0, 1) := by decide +kernel
theorem dX4_readSteps_1 : decode cX4_readSteps 1 = .ok (.istore_n 3, 1) := by decide +kernel
theorem dX4_readSteps_2 : decode cX4_readSteps 2 = .ok (.iload_n 3, 1) := by decide +kernel
theorem dX4_readSteps_3 : decode cX4_readSteps 3 = .ok (.sipush 150, 3) := by decide +kernel
theorem dX4_readSteps_6 : decode cX4_readSteps 6 = .ok (.if_icmp .gt 52, 3) := by decide +kernel
theorem dX4_readSteps_9 : decode cX4_readSteps 9 = .ok (.aload_n 1, 1) := by decide +kernel
theorem dX4_readSteps_10 : decode cX4_readSteps 10 = .ok (.invokevirtual 35, 3) := by decide +kernel
theorem dX4_readSteps_13 : decode cX4_readSteps 13 = .ok (.istore 4, 2) := by decide +kernel
theorem dX4_readSteps_15 : decode cX4_readSteps 15 = .ok (.iload 4, 2) := by decide +kernel
theorem dX4_readSteps_17 : decode cX4_readSteps 17 = .ok (.iload_n 2, 1) := by decide +kernel
theorem dX4_readSteps_18 : decode cX4_readSteps 18 = .ok (.ifCond .ne 7, 3) := by decide +kernel
theorem dX4_readSteps_21 : decode cX4_readSteps 21 = .ok (.iconst (-1), 1) := by decide +kernel
theorem dX4_readSteps_22 : decode cX4_readSteps 22 = .ok (.goto 5, 3) := by decide +kernel
theorem dX4_readSteps_25 : decode cX4_readSteps 25 = .ok (.bipush 93, 2) := by decide +kernel
theorem dX4_readSteps_27 : decode cX4_readSteps 27 = .ok (.if_icmp .ne 5, 3) := by decide +kernel
theorem dX4_readSteps_30 : decode cX4_readSteps 30 = .ok (.iconst 1, 1) := by decide +kernel
theorem dX4_readSteps_31 : decode cX4_readSteps 31 = .ok (.ireturn, 1) := by decide +kernel
theorem dX4_readSteps_32 : decode cX4_readSteps 32 = .ok (.aload_n 0, 1) := by decide +kernel
theorem dX4_readSteps_33 : decode cX4_readSteps 33 = .ok (.aload_n 1, 1) := by decide +kernel
theorem dX4_readSteps_34 : decode cX4_readSteps 34 = .ok (.iload_n 2, 1) := by decide +kernel
theorem dX4_readSteps_35 : decode cX4_readSteps 35 = .ok (.invokevirtual 41, 3) := by decide +kernel
theorem dX4_readSteps_38 : decode cX4_readSteps 38 = .ok (.ifCond .eq 12, 3) := by decide +kernel
theorem dX4_readSteps_41 : decode cX4_readSteps 41 = .ok (.aload_n 1, 1) := by decide +kernel
theorem dX4_readSteps_42 : decode cX4_readSteps 42 = .ok (.bipush 59, 2) := by decide +kernel
theorem dX4_readSteps_44 : decode cX4_readSteps 44 = .ok (.invokevirtual 44, 3) := by decide +kernel
theorem dX4_readSteps_47 : decode cX4_readSteps 47 = .ok (.ifCond .ne 5, 3) := by decide +kernel
theorem dX4_readSteps_50 : decode cX4_readSteps 50 = .ok (.iconst 0, 1) := by decide +kernel
theorem dX4_readSteps_51 : decode cX4_readSteps 51 = .ok (.ireturn, 1) := by decide +kernel
theorem dX4_readSteps_52 : decode cX4_readSteps 52 = .ok (.iinc 3 1, 3) := by decide +kernel
theorem dX4_readSteps_55 : decode cX4_readSteps 55 = .ok (.goto (-53), 3) := by decide +kernel
theorem dX4_readSteps_58 : decode cX4_readSteps 58 = .ok (.iconst 0, 1) := by decide +kernel
theorem dX4_readSteps_59 : decode cX4_readSteps 59 = .ok (.ireturn, 1) := by decide +kernel
theorem dX4_readStep_0 : decode cX4_readStep 0 = .ok (.aload_n 1, 1) := by decide +kernel
theorem dX4_readStep_1 : decode cX4_readStep 1 = .ok (.invokevirtual 48, 3) := by decide +kernel
theorem dX4_readStep_4 : decode cX4_readStep 4 = .ok (.aload_n 1, 1) := by decide +kernel
theorem dX4_readStep_5 : decode cX4_readStep 5 = .ok (.invokestatic 51, 3) := by decide +kernel
theorem dX4_readStep_8 : decode cX4_readStep 8 = .ok (.istore_n 3, 1) := by decide +kernel
theorem dX4_readStep_9 : decode cX4_readStep 9 = .ok (.iload_n 3, 1) := by decide +kernel
theorem dX4_readStep_10 : decode cX4_readStep 10 = .ok (.iconst (-1), 1) := by decide +kernel
theorem dX4_readStep_11 : decode cX4_readStep 11 = .ok (.if_icmp .eq 13, 3) := by decide +kernel
theorem dX4_readStep_14 : decode cX4_readStep 14 = .ok (.aload_n 0, 1) := by decide +kernel
theorem dX4_readStep_15 : decode cX4_readStep 15 = .ok (.getfield 21, 3) := by decide +kernel
theorem dX4_readStep_18 : decode cX4_readStep 18 = .ok (.sipush 150, 3) := by decide +kernel
theorem dX4_readStep_21 : decode cX4_readStep 21 = .ok (.if_icmp .lt 13, 3) := by decide +kernel
theorem dX4_readStep_24 : decode cX4_readStep 24 = .ok (.aload_n 1, 1) := by decide +kernel
theorem dX4_readStep_25 : decode cX4_readStep 25 = .ok (.iconst 1, 1) := by decide +kernel
theorem dX4_readStep_26 : decode cX4_readStep 26 = .ok (.aload_n 1, 1) := by decide +kernel
theorem dX4_readStep_27 : decode cX4_readStep 27 = .ok (.getfield 55, 3) := by decide +kernel
theorem dX4_readStep_30 : decode cX4_readStep 30 = .ok (.invokevirtual 58, 3) := by decide +kernel
theorem dX4_readStep_33 : decode cX4_readStep 33 = .ok (.ireturn, 1) := by decide +kernel
theorem dX4_readStep_34 : decode cX4_readStep 34 = .ok (.iload_n 3, 1) := by decide +kernel
theorem dX4_readStep_35 : decode cX4_readStep 35 = .ok (.bipush 6, 2) := by decide +kernel
theorem dX4_readStep_37 : decode cX4_readStep 37 = .ok (.if_icmp .ne 19, 3) := by decide +kernel
theorem dX4_readStep_40 : decode cX4_readStep 40 = .ok (.iload_n 2, 1) := by decide +kernel
theorem dX4_readStep_41 : decode cX4_readStep 41 = .ok (.bipush 6, 2) := by decide +kernel
theorem dX4_readStep_43 : decode cX4_readStep 43 = .ok (.if_icmp .lt 13, 3) := by decide +kernel
theorem dX4_readStep_46 : decode cX4_readStep 46 = .ok (.aload_n 1, 1) := by decide +kernel
theorem dX4_readStep_47 : decode cX4_readStep 47 = .ok (.iconst 3, 1) := by decide +kernel
theorem dX4_readStep_48 : decode cX4_readStep 48 = .ok (.aload_n 1, 1) := by decide +kernel
theorem dX4_readStep_49 : decode cX4_readStep 49 = .ok (.getfield 55, 3) := by decide +kernel
theorem dX4_readStep_52 : decode cX4_readStep 52 = .ok (.invokevirtual 58, 3) := by decide +kernel
theorem dX4_readStep_55 : decode cX4_readStep 55 = .ok (.ireturn, 1) := by decide +kernel
theorem dX4_readStep_56 : decode cX4_readStep 56 = .ok (.aload_n 0, 1) := by decide +kernel
theorem dX4_readStep_57 : decode cX4_readStep 57 = .ok (.getfield 21, 3) := by decide +kernel
theorem dX4_readStep_60 : decode cX4_readStep 60 = .ok (.istore 4, 2) := by decide +kernel
theorem dX4_readStep_62 : decode cX4_readStep 62 = .ok (.aload_n 0, 1) := by decide +kernel
theorem dX4_readStep_63 : decode cX4_readStep 63 = .ok (.dup, 1) := by decide +kernel
theorem dX4_readStep_64 : decode cX4_readStep 64 = .ok (.getfield 21, 3) := by decide +kernel
theorem dX4_readStep_67 : decode cX4_readStep 67 = .ok (.iconst 1, 1) := by decide +kernel
theorem dX4_readStep_68 : decode cX4_readStep 68 = .ok (.iadd, 1) := by decide +kernel
theorem dX4_readStep_69 : decode cX4_readStep 69 = .ok (.putfield 21, 3) := by decide +kernel
theorem dX4_readStep_72 : decode cX4_readStep 72 = .ok (.aload_n 0, 1) := by decide +kernel
theorem dX4_readStep_73 : decode cX4_readStep 73 = .ok (.getfield 9, 3) := by decide +kernel
theorem dX4_readStep_76 : decode cX4_readStep 76 = .ok (.iload 4, 2) := by decide +kernel
theorem dX4_readStep_78 : decode cX4_readStep 78 = .ok (.iload_n 3, 1) := by decide +kernel
theorem dX4_readStep_79 : decode cX4_readStep 79 = .ok (.iastore, 1) := by decide +kernel
theorem dX4_readStep_80 : decode cX4_readStep 80 = .ok (.iload_n 3, 1) := by decide +kernel
theorem dX4_readStep_81 : decode cX4_readStep 81 = .ok (.iconst 5, 1) := by decide +kernel
theorem dX4_readStep_82 : decode cX4_readStep 82 = .ok (.if_icmp .ne 5, 3) := by decide +kernel
theorem dX4_readStep_85 : decode cX4_readStep 85 = .ok (.iconst 1, 1) := by decide +kernel
theorem dX4_readStep_86 : decode cX4_readStep 86 = .ok (.ireturn, 1) := by decide +kernel
theorem dX4_readStep_87 : decode cX4_readStep 87 = .ok (.aload_n 0, 1) := by decide +kernel
theorem dX4_readStep_88 : decode cX4_readStep 88 = .ok (.getfield 15, 3) := by decide +kernel
theorem dX4_readStep_91 : decode cX4_readStep 91 = .ok (.iload 4, 2) := by decide +kernel
theorem dX4_readStep_93 : decode cX4_readStep 93 = .ok (.aload_n 1, 1) := by decide +kernel
theorem dX4_readStep_94 : decode cX4_readStep 94 = .ok (.iload_n 3, 1) := by decide +kernel
theorem dX4_readStep_95 : decode cX4_readStep 95 = .ok (.bipush 6, 2) := by decide +kernel
theorem dX4_readStep_97 : decode cX4_readStep 97 = .ok (.if_icmp .ne 8, 3) := by decide +kernel
theorem dX4_readStep_100 : decode cX4_readStep 100 = .ok (.bipush 30, 2) := by decide +kernel
theorem dX4_readStep_102 : decode cX4_readStep 102 = .ok (.goto 9, 3) := by decide +kernel
theorem dX4_readStep_105 : decode cX4_readStep 105 = .ok (.aload_n 0, 1) := by decide +kernel
theorem dX4_readStep_106 : decode cX4_readStep 106 = .ok (.getfield 25, 3) := by decide +kernel
theorem dX4_readStep_109 : decode cX4_readStep 109 = .ok (.iconst 1, 1) := by decide +kernel
theorem dX4_readStep_110 : decode cX4_readStep 110 = .ok (.isub, 1) := by decide +kernel
theorem dX4_readStep_111 : decode cX4_readStep 111 = .ok (.invokevirtual 62, 3) := by decide +kernel
theorem dX4_readStep_114 : decode cX4_readStep 114 = .ok (.iastore, 1) := by decide +kernel
theorem dX4_readStep_115 : decode cX4_readStep 115 = .ok (.aload_n 0, 1) := by decide +kernel
theorem dX4_readStep_116 : decode cX4_readStep 116 = .ok (.getfield 15, 3) := by decide +kernel
theorem dX4_readStep_119 : decode cX4_readStep 119 = .ok (.iload 4, 2) := by decide +kernel
theorem dX4_readStep_121 : decode cX4_readStep 121 = .ok (.iaload, 1) := by decide +kernel
theorem dX4_readStep_122 : decode cX4_readStep 122 = .ok (.iconst (-1), 1) := by decide +kernel
theorem dX4_readStep_123 : decode cX4_readStep 123 = .ok (.if_icmp .eq 8, 3) := by decide +kernel
theorem dX4_readStep_126 : decode cX4_readStep 126 = .ok (.iload_n 3, 1) := by decide +kernel
theorem dX4_readStep_127 : decode cX4_readStep 127 = .ok (.iconst 2, 1) := by decide +kernel
theorem dX4_readStep_128 : decode cX4_readStep 128 = .ok (.if_icmp .ne 20, 3) := by decide +kernel
theorem dX4_readStep_131 : decode cX4_readStep 131 = .ok (.aload_n 0, 1) := by decide +kernel
theorem dX4_readStep_132 : decode cX4_readStep 132 = .ok (.getfield 15, 3) := by decide +kernel
theorem dX4_readStep_135 : decode cX4_readStep 135 = .ok (.iload 4, 2) := by decide +kernel
theorem dX4_readStep_137 : decode cX4_readStep 137 = .ok (.iaload, 1) := by decide +kernel
theorem dX4_readStep_138 : decode cX4_readStep 138 = .ok (.iconst (-1), 1) := by decide +kernel
theorem dX4_readStep_139 : decode cX4_readStep 139 = .ok (.if_icmp .eq 7, 3) := by decide +kernel
theorem dX4_readStep_142 : decode cX4_readStep 142 = .ok (.iconst 1, 1) := by decide +kernel
theorem dX4_readStep_143 : decode cX4_readStep 143 = .ok (.goto 4, 3) := by decide +kernel
theorem dX4_readStep_146 : decode cX4_readStep 146 = .ok (.iconst 0, 1) := by decide +kernel
theorem dX4_readStep_147 : decode cX4_readStep 147 = .ok (.ireturn, 1) := by decide +kernel
theorem dX4_readStep_148 : decode cX4_readStep 148 = .ok (.iload_n 3, 1) := by decide +kernel
theorem dX4_readStep_149 : decode cX4_readStep 149 = .ok (.bipush 6, 2) := by decide +kernel
theorem dX4_readStep_151 : decode cX4_readStep 151 = .ok (.if_icmp .ne 14, 3) := by decide +kernel
theorem dX4_readStep_154 : decode cX4_readStep 154 = .ok (.aload_n 0, 1) := by decide +kernel
theorem dX4_readStep_155 : decode cX4_readStep 155 = .ok (.aload_n 1, 1) := by decide +kernel
theorem dX4_readStep_156 : decode cX4_readStep 156 = .ok (.iload_n 2, 1) := by decide +kernel
theorem dX4_readStep_157 : decode cX4_readStep 157 = .ok (.iload 4, 2) := by decide +kernel
theorem dX4_readStep_159 : decode cX4_readStep 159 = .ok (.invokevirtual 66, 3) := by decide +kernel
theorem dX4_readStep_162 : decode cX4_readStep 162 = .ok (.goto 10, 3) := by decide +kernel
theorem dX4_readStep_165 : decode cX4_readStep 165 = .ok (.aload_n 0, 1) := by decide +kernel
theorem dX4_readStep_166 : decode cX4_readStep 166 = .ok (.aload_n 1, 1) := by decide +kernel
theorem dX4_readStep_167 : decode cX4_readStep 167 = .ok (.iload 4, 2) := by decide +kernel
theorem dX4_readStep_169 : decode cX4_readStep 169 = .ok (.invokevirtual 70, 3) := by decide +kernel
theorem dX4_readStep_172 : decode cX4_readStep 172 = .ok (.ireturn, 1) := by decide +kernel
theorem dX4_readRounds_0 : decode cX4_readRounds 0 = .ok (.aload_n 1, 1) := by decide +kernel
theorem dX4_readRounds_1 : decode cX4_readRounds 1 = .ok (.bipush 91, 2) := by decide +kernel
theorem dX4_readRounds_3 : decode cX4_readRounds 3 = .ok (.invokevirtual 44, 3) := by decide +kernel
theorem dX4_readRounds_6 : decode cX4_readRounds 6 = .ok (.ifCond .eq 27, 3) := by decide +kernel
theorem dX4_readRounds_9 : decode cX4_readRounds 9 = .ok (.aload_n 0, 1) := by decide +kernel
theorem dX4_readRounds_10 : decode cX4_readRounds 10 = .ok (.aload_n 1, 1) := by decide +kernel
theorem dX4_readRounds_11 : decode cX4_readRounds 11 = .ok (.iload_n 2, 1) := by decide +kernel
theorem dX4_readRounds_12 : decode cX4_readRounds 12 = .ok (.iconst 1, 1) := by decide +kernel
theorem dX4_readRounds_13 : decode cX4_readRounds 13 = .ok (.iadd, 1) := by decide +kernel
theorem dX4_readRounds_14 : decode cX4_readRounds 14 = .ok (.invokevirtual 31, 3) := by decide +kernel
theorem dX4_readRounds_17 : decode cX4_readRounds 17 = .ok (.ifCond .eq 16, 3) := by decide +kernel
theorem dX4_readRounds_20 : decode cX4_readRounds 20 = .ok (.aload_n 1, 1) := by decide +kernel
theorem dX4_readRounds_21 : decode cX4_readRounds 21 = .ok (.bipush 93, 2) := by decide +kernel
theorem dX4_readRounds_23 : decode cX4_readRounds 23 = .ok (.invokevirtual 44, 3) := by decide +kernel
theorem dX4_readRounds_26 : decode cX4_readRounds 26 = .ok (.ifCond .eq 7, 3) := by decide +kernel
theorem dX4_readRounds_29 : decode cX4_readRounds 29 = .ok (.iconst 1, 1) := by decide +kernel
theorem dX4_readRounds_30 : decode cX4_readRounds 30 = .ok (.goto 4, 3) := by decide +kernel
theorem dX4_readRounds_33 : decode cX4_readRounds 33 = .ok (.iconst 0, 1) := by decide +kernel
theorem dX4_readRounds_34 : decode cX4_readRounds 34 = .ok (.istore 4, 2) := by decide +kernel
theorem dX4_readRounds_36 : decode cX4_readRounds 36 = .ok (.aload_n 0, 1) := by decide +kernel
theorem dX4_readRounds_37 : decode cX4_readRounds 37 = .ok (.getfield 18, 3) := by decide +kernel
theorem dX4_readRounds_40 : decode cX4_readRounds 40 = .ok (.iload_n 3, 1) := by decide +kernel
theorem dX4_readRounds_41 : decode cX4_readRounds 41 = .ok (.aload_n 0, 1) := by decide +kernel
theorem dX4_readRounds_42 : decode cX4_readRounds 42 = .ok (.getfield 21, 3) := by decide +kernel
theorem dX4_readRounds_45 : decode cX4_readRounds 45 = .ok (.iastore, 1) := by decide +kernel
theorem dX4_readRounds_46 : decode cX4_readRounds 46 = .ok (.iload 4, 2) := by decide +kernel
theorem dX4_readRounds_48 : decode cX4_readRounds 48 = .ok (.ireturn, 1) := by decide +kernel
theorem dX4_readSecond_0 : decode cX4_readSecond 0 = .ok (.aload_n 0, 1) := by decide +kernel
theorem dX4_readSecond_1 : decode cX4_readSecond 1 = .ok (.getfield 9, 3) := by decide +kernel
theorem dX4_readSecond_4 : decode cX4_readSecond 4 = .ok (.iload_n 2, 1) := by decide +kernel
theorem dX4_readSecond_5 : decode cX4_readSecond 5 = .ok (.iaload, 1) := by decide +kernel
theorem dX4_readSecond_6 : decode cX4_readSecond 6 = .ok (.istore_n 3, 1) := by decide +kernel
theorem dX4_readSecond_7 : decode cX4_readSecond 7 = .ok (.iload_n 3, 1) := by decide +kernel
theorem dX4_readSecond_8 : decode cX4_readSecond 8 = .ok (.iconst 3, 1) := by decide +kernel
theorem dX4_readSecond_9 : decode cX4_readSecond 9 = .ok (.if_icmp .ne 12, 3) := by decide +kernel
theorem dX4_readSecond_12 : decode cX4_readSecond 12 = .ok (.aload_n 0, 1) := by decide +kernel
theorem dX4_readSecond_13 : decode cX4_readSecond 13 = .ok (.getfield 28, 3) := by decide +kernel
theorem dX4_readSecond_16 : decode cX4_readSecond 16 = .ok (.iconst 1, 1) := by decide +kernel
theorem dX4_readSecond_17 : decode cX4_readSecond 17 = .ok (.isub, 1) := by decide +kernel
theorem dX4_readSecond_18 : decode cX4_readSecond 18 = .ok (.goto 19, 3) := by decide +kernel
theorem dX4_readSecond_21 : decode cX4_readSecond 21 = .ok (.iload_n 3, 1) := by decide +kernel
theorem dX4_readSecond_22 : decode cX4_readSecond 22 = .ok (.iconst 4, 1) := by decide +kernel
theorem dX4_readSecond_23 : decode cX4_readSecond 23 = .ok (.if_icmp .ne 12, 3) := by decide +kernel
theorem dX4_readSecond_26 : decode cX4_readSecond 26 = .ok (.aload_n 0, 1) := by decide +kernel
theorem dX4_readSecond_27 : decode cX4_readSecond 27 = .ok (.getfield 25, 3) := by decide +kernel
theorem dX4_readSecond_30 : decode cX4_readSecond 30 = .ok (.iconst 1, 1) := by decide +kernel
theorem dX4_readSecond_31 : decode cX4_readSecond 31 = .ok (.isub, 1) := by decide +kernel
theorem dX4_readSecond_32 : decode cX4_readSecond 32 = .ok (.goto 5, 3) := by decide +kernel
theorem dX4_readSecond_35 : decode cX4_readSecond 35 = .ok (.bipush 7, 2) := by decide +kernel
theorem dX4_readSecond_37 : decode cX4_readSecond 37 = .ok (.istore 4, 2) := by decide +kernel
theorem dX4_readSecond_39 : decode cX4_readSecond 39 = .ok (.aload_n 0, 1) := by decide +kernel
theorem dX4_readSecond_40 : decode cX4_readSecond 40 = .ok (.getfield 18, 3) := by decide +kernel
theorem dX4_readSecond_43 : decode cX4_readSecond 43 = .ok (.iload_n 2, 1) := by decide +kernel
theorem dX4_readSecond_44 : decode cX4_readSecond 44 = .ok (.aload_n 1, 1) := by decide +kernel
theorem dX4_readSecond_45 : decode cX4_readSecond 45 = .ok (.iload 4, 2) := by decide +kernel
theorem dX4_readSecond_47 : decode cX4_readSecond 47 = .ok (.invokevirtual 62, 3) := by decide +kernel
theorem dX4_readSecond_50 : decode cX4_readSecond 50 = .ok (.iastore, 1) := by decide +kernel
theorem dX4_readSecond_51 : decode cX4_readSecond 51 = .ok (.iload_n 3, 1) := by decide +kernel
theorem dX4_readSecond_52 : decode cX4_readSecond 52 = .ok (.iconst 4, 1) := by decide +kernel
theorem dX4_readSecond_53 : decode cX4_readSecond 53 = .ok (.if_icmp .ne 28, 3) := by decide +kernel
theorem dX4_readSecond_56 : decode cX4_readSecond 56 = .ok (.aload_n 0, 1) := by decide +kernel
theorem dX4_readSecond_57 : decode cX4_readSecond 57 = .ok (.getfield 18, 3) := by decide +kernel
theorem dX4_readSecond_60 : decode cX4_readSecond 60 = .ok (.iload_n 2, 1) := by decide +kernel
theorem dX4_readSecond_61 : decode cX4_readSecond 61 = .ok (.iaload, 1) := by decide +kernel
theorem dX4_readSecond_62 : decode cX4_readSecond 62 = .ok (.aload_n 0, 1) := by decide +kernel
theorem dX4_readSecond_63 : decode cX4_readSecond 63 = .ok (.getfield 15, 3) := by decide +kernel
theorem dX4_readSecond_66 : decode cX4_readSecond 66 = .ok (.iload_n 2, 1) := by decide +kernel
theorem dX4_readSecond_67 : decode cX4_readSecond 67 = .ok (.iaload, 1) := by decide +kernel
theorem dX4_readSecond_68 : decode cX4_readSecond 68 = .ok (.if_icmp .ne 13, 3) := by decide +kernel
theorem dX4_readSecond_71 : decode cX4_readSecond 71 = .ok (.aload_n 1, 1) := by decide +kernel
theorem dX4_readSecond_72 : decode cX4_readSecond 72 = .ok (.iconst 2, 1) := by decide +kernel
theorem dX4_readSecond_73 : decode cX4_readSecond 73 = .ok (.aload_n 1, 1) := by decide +kernel
theorem dX4_readSecond_74 : decode cX4_readSecond 74 = .ok (.getfield 73, 3) := by decide +kernel
theorem dX4_readSecond_77 : decode cX4_readSecond 77 = .ok (.invokevirtual 58, 3) := by decide +kernel
theorem dX4_readSecond_80 : decode cX4_readSecond 80 = .ok (.ireturn, 1) := by decide +kernel
theorem dX4_readSecond_81 : decode cX4_readSecond 81 = .ok (.aload_n 0, 1) := by decide +kernel
theorem dX4_readSecond_82 : decode cX4_readSecond 82 = .ok (.getfield 18, 3) := by decide +kernel
theorem dX4_readSecond_85 : decode cX4_readSecond 85 = .ok (.iload_n 2, 1) := by decide +kernel
theorem dX4_readSecond_86 : decode cX4_readSecond 86 = .ok (.iaload, 1) := by decide +kernel
theorem dX4_readSecond_87 : decode cX4_readSecond 87 = .ok (.iconst (-1), 1) := by decide +kernel
theorem dX4_readSecond_88 : decode cX4_readSecond 88 = .ok (.if_icmp .eq 7, 3) := by decide +kernel
theorem dX4_readSecond_91 : decode cX4_readSecond 91 = .ok (.iconst 1, 1) := by decide +kernel
theorem dX4_readSecond_92 : decode cX4_readSecond 92 = .ok (.goto 4, 3) := by decide +kernel
theorem dX4_readSecond_95 : decode cX4_readSecond 95 = .ok (.iconst 0, 1) := by decide +kernel
theorem dX4_readSecond_96 : decode cX4_readSecond 96 = .ok (.ireturn, 1) := by decide +kernel
theorem dX4_stepKind_0 : decode cX4_stepKind 0 = .ok (.aload_n 0, 1) := by decide +kernel
theorem dX4_stepKind_1 : decode cX4_stepKind 1 = .ok (.ldc 76, 2) := by decide +kernel
theorem dX4_stepKind_3 : decode cX4_stepKind 3 = .ok (.invokevirtual 78, 3) := by decide +kernel
theorem dX4_stepKind_6 : decode cX4_stepKind 6 = .ok (.ifCond .eq 5, 3) := by decide +kernel
theorem dX4_stepKind_9 : decode cX4_stepKind 9 = .ok (.iconst 0, 1) := by decide +kernel
theorem dX4_stepKind_10 : decode cX4_stepKind 10 = .ok (.ireturn, 1) := by decide +kernel
theorem dX4_stepKind_11 : decode cX4_stepKind 11 = .ok (.aload_n 0, 1) := by decide +kernel
theorem dX4_stepKind_12 : decode cX4_stepKind 12 = .ok (.ldc 82, 2) := by decide +kernel
theorem dX4_stepKind_14 : decode cX4_stepKind 14 = .ok (.invokevirtual 78, 3) := by decide +kernel
theorem dX4_stepKind_17 : decode cX4_stepKind 17 = .ok (.ifCond .eq 5, 3) := by decide +kernel
theorem dX4_stepKind_20 : decode cX4_stepKind 20 = .ok (.iconst 1, 1) := by decide +kernel
theorem dX4_stepKind_21 : decode cX4_stepKind 21 = .ok (.ireturn, 1) := by decide +kernel
theorem dX4_stepKind_22 : decode cX4_stepKind 22 = .ok (.aload_n 0, 1) := by decide +kernel
theorem dX4_stepKind_23 : decode cX4_stepKind 23 = .ok (.ldc 84, 2) := by decide +kernel
theorem dX4_stepKind_25 : decode cX4_stepKind 25 = .ok (.invokevirtual 78, 3) := by decide +kernel
theorem dX4_stepKind_28 : decode cX4_stepKind 28 = .ok (.ifCond .eq 5, 3) := by decide +kernel
theorem dX4_stepKind_31 : decode cX4_stepKind 31 = .ok (.iconst 2, 1) := by decide +kernel
theorem dX4_stepKind_32 : decode cX4_stepKind 32 = .ok (.ireturn, 1) := by decide +kernel
theorem dX4_stepKind_33 : decode cX4_stepKind 33 = .ok (.aload_n 0, 1) := by decide +kernel
theorem dX4_stepKind_34 : decode cX4_stepKind 34 = .ok (.ldc 86, 2) := by decide +kernel
theorem dX4_stepKind_36 : decode cX4_stepKind 36 = .ok (.invokevirtual 78, 3) := by decide +kernel
theorem dX4_stepKind_39 : decode cX4_stepKind 39 = .ok (.ifCond .eq 5, 3) := by decide +kernel
theorem dX4_stepKind_42 : decode cX4_stepKind 42 = .ok (.iconst 3, 1) := by decide +kernel
theorem dX4_stepKind_43 : decode cX4_stepKind 43 = .ok (.ireturn, 1) := by decide +kernel
theorem dX4_stepKind_44 : decode cX4_stepKind 44 = .ok (.aload_n 0, 1) := by decide +kernel
theorem dX4_stepKind_45 : decode cX4_stepKind 45 = .ok (.ldc 88, 2) := by decide +kernel
theorem dX4_stepKind_47 : decode cX4_stepKind 47 = .ok (.invokevirtual 78, 3) := by decide +kernel
theorem dX4_stepKind_50 : decode cX4_stepKind 50 = .ok (.ifCond .eq 5, 3) := by decide +kernel
theorem dX4_stepKind_53 : decode cX4_stepKind 53 = .ok (.iconst 4, 1) := by decide +kernel
theorem dX4_stepKind_54 : decode cX4_stepKind 54 = .ok (.ireturn, 1) := by decide +kernel
theorem dX4_stepKind_55 : decode cX4_stepKind 55 = .ok (.aload_n 0, 1) := by decide +kernel
theorem dX4_stepKind_56 : decode cX4_stepKind 56 = .ok (.ldc 90, 2) := by decide +kernel
theorem dX4_stepKind_58 : decode cX4_stepKind 58 = .ok (.invokevirtual 78, 3) := by decide +kernel
theorem dX4_stepKind_61 : decode cX4_stepKind 61 = .ok (.ifCond .eq 5, 3) := by decide +kernel
theorem dX4_stepKind_64 : decode cX4_stepKind 64 = .ok (.iconst 5, 1) := by decide +kernel
theorem dX4_stepKind_65 : decode cX4_stepKind 65 = .ok (.ireturn, 1) := by decide +kernel
theorem dX4_stepKind_66 : decode cX4_stepKind 66 = .ok (.aload_n 0, 1) := by decide +kernel
theorem dX4_stepKind_67 : decode cX4_stepKind 67 = .ok (.ldc 92, 2) := by decide +kernel
theorem dX4_stepKind_69 : decode cX4_stepKind 69 = .ok (.invokevirtual 78, 3) := by decide +kernel
theorem dX4_stepKind_72 : decode cX4_stepKind 72 = .ok (.ifCond .eq 8, 3) := by decide +kernel
theorem dX4_stepKind_75 : decode cX4_stepKind 75 = .ok (.bipush 6, 2) := by decide +kernel
theorem dX4_stepKind_77 : decode cX4_stepKind 77 = .ok (.goto 4, 3) := by decide +kernel
theorem dX4_stepKind_80 : decode cX4_stepKind 80 = .ok (.iconst (-1), 1) := by decide +kernel
theorem dX4_stepKind_81 : decode cX4_stepKind 81 = .ok (.ireturn, 1) := by decide +kernel
theorem dX4_begin_0 : decode cX4_begin 0 = .ok (.aload_n 0, 1) := by decide +kernel
theorem dX4_begin_1 : decode cX4_begin 1 = .ok (.iconst 0, 1) := by decide +kernel
theorem dX4_begin_2 : decode cX4_begin 2 = .ok (.putfield 94, 3) := by decide +kernel
theorem dX4_begin_5 : decode cX4_begin 5 = .ok (.aload_n 0, 1) := by decide +kernel
theorem dX4_begin_6 : decode cX4_begin 6 = .ok (.iconst 0, 1) := by decide +kernel
theorem dX4_begin_7 : decode cX4_begin 7 = .ok (.putfield 97, 3) := by decide +kernel
theorem dX4_begin_10 : decode cX4_begin 10 = .ok (.aload_n 0, 1) := by decide +kernel
theorem dX4_begin_11 : decode cX4_begin 11 = .ok (.iconst 0, 1) := by decide +kernel
theorem dX4_begin_12 : decode cX4_begin 12 = .ok (.putfield 100, 3) := by decide +kernel
theorem dX4_begin_15 : decode cX4_begin 15 = .ok (.return_, 1) := by decide +kernel
theorem dX4_doSteps_0 : decode cX4_doSteps 0 = .ok (.iload_n 3, 1) := by decide +kernel
theorem dX4_doSteps_1 : decode cX4_doSteps 1 = .ok (.istore 6, 2) := by decide +kernel
theorem dX4_doSteps_3 : decode cX4_doSteps 3 = .ok (.iconst 0, 1) := by decide +kernel
theorem dX4_doSteps_4 : decode cX4_doSteps 4 = .ok (.istore 7, 2) := by decide +kernel
theorem dX4_doSteps_6 : decode cX4_doSteps 6 = .ok (.iload 7, 2) := by decide +kernel
theorem dX4_doSteps_8 : decode cX4_doSteps 8 = .ok (.sipush 150, 3) := by decide +kernel
theorem dX4_doSteps_11 : decode cX4_doSteps 11 = .ok (.if_icmp .ge 181, 3) := by decide +kernel
theorem dX4_doSteps_14 : decode cX4_doSteps 14 = .ok (.iload 6, 2) := by decide +kernel
theorem dX4_doSteps_16 : decode cX4_doSteps 16 = .ok (.iload 4, 2) := by decide +kernel
theorem dX4_doSteps_18 : decode cX4_doSteps 18 = .ok (.if_icmp .ge 174, 3) := by decide +kernel
theorem dX4_doSteps_21 : decode cX4_doSteps 21 = .ok (.iload 6, 2) := by decide +kernel
theorem dX4_doSteps_23 : decode cX4_doSteps 23 = .ok (.sipush 150, 3) := by decide +kernel
theorem dX4_doSteps_26 : decode cX4_doSteps 26 = .ok (.if_icmp .ge 166, 3) := by decide +kernel
theorem dX4_doSteps_29 : decode cX4_doSteps 29 = .ok (.aload_n 0, 1) := by decide +kernel
theorem dX4_doSteps_30 : decode cX4_doSteps 30 = .ok (.getfield 94, 3) := by decide +kernel
theorem dX4_doSteps_33 : decode cX4_doSteps 33 = .ok (.sipush 200, 3) := by decide +kernel
theorem dX4_doSteps_36 : decode cX4_doSteps 36 = .ok (.if_icmp .ge 156, 3) := by decide +kernel
theorem dX4_doSteps_39 : decode cX4_doSteps 39 = .ok (.aload_n 0, 1) := by decide +kernel
theorem dX4_doSteps_40 : decode cX4_doSteps 40 = .ok (.dup, 1) := by decide +kernel
theorem dX4_doSteps_41 : decode cX4_doSteps 41 = .ok (.getfield 94, 3) := by decide +kernel
theorem dX4_doSteps_44 : decode cX4_doSteps 44 = .ok (.iconst 1, 1) := by decide +kernel
theorem dX4_doSteps_45 : decode cX4_doSteps 45 = .ok (.iadd, 1) := by decide +kernel
theorem dX4_doSteps_46 : decode cX4_doSteps 46 = .ok (.putfield 94, 3) := by decide +kernel
theorem dX4_doSteps_49 : decode cX4_doSteps 49 = .ok (.aload_n 0, 1) := by decide +kernel
theorem dX4_doSteps_50 : decode cX4_doSteps 50 = .ok (.getfield 9, 3) := by decide +kernel
theorem dX4_doSteps_53 : decode cX4_doSteps 53 = .ok (.iload 6, 2) := by decide +kernel
theorem dX4_doSteps_55 : decode cX4_doSteps 55 = .ok (.iaload, 1) := by decide +kernel
theorem dX4_doSteps_56 : decode cX4_doSteps 56 = .ok (.bipush 6, 2) := by decide +kernel
theorem dX4_doSteps_58 : decode cX4_doSteps 58 = .ok (.if_icmp .ne 73, 3) := by decide +kernel
theorem dX4_doSteps_61 : decode cX4_doSteps 61 = .ok (.aload_n 0, 1) := by decide +kernel
theorem dX4_doSteps_62 : decode cX4_doSteps 62 = .ok (.getfield 18, 3) := by decide +kernel
theorem dX4_doSteps_65 : decode cX4_doSteps 65 = .ok (.iload 6, 2) := by decide +kernel
theorem dX4_doSteps_67 : decode cX4_doSteps 67 = .ok (.iaload, 1) := by decide +kernel
theorem dX4_doSteps_68 : decode cX4_doSteps 68 = .ok (.istore 8, 2) := by decide +kernel
theorem dX4_doSteps_70 : decode cX4_doSteps 70 = .ok (.iconst 0, 1) := by decide +kernel
theorem dX4_doSteps_71 : decode cX4_doSteps 71 = .ok (.istore 9, 2) := by decide +kernel
theorem dX4_doSteps_73 : decode cX4_doSteps 73 = .ok (.iload 9, 2) := by decide +kernel
theorem dX4_doSteps_75 : decode cX4_doSteps 75 = .ok (.aload_n 0, 1) := by decide +kernel
theorem dX4_doSteps_76 : decode cX4_doSteps 76 = .ok (.getfield 15, 3) := by decide +kernel
theorem dX4_doSteps_79 : decode cX4_doSteps 79 = .ok (.iload 6, 2) := by decide +kernel
theorem dX4_doSteps_81 : decode cX4_doSteps 81 = .ok (.iaload, 1) := by decide +kernel
theorem dX4_doSteps_82 : decode cX4_doSteps 82 = .ok (.if_icmp .ge 42, 3) := by decide +kernel
theorem dX4_doSteps_85 : decode cX4_doSteps 85 = .ok (.iload 5, 2) := by decide +kernel
theorem dX4_doSteps_87 : decode cX4_doSteps 87 = .ok (.bipush 6, 2) := by decide +kernel
theorem dX4_doSteps_89 : decode cX4_doSteps 89 = .ok (.if_icmp .ge 35, 3) := by decide +kernel
theorem dX4_doSteps_92 : decode cX4_doSteps 92 = .ok (.aload_n 0, 1) := by decide +kernel
theorem dX4_doSteps_93 : decode cX4_doSteps 93 = .ok (.getfield 94, 3) := by decide +kernel
theorem dX4_doSteps_96 : decode cX4_doSteps 96 = .ok (.sipush 200, 3) := by decide +kernel
theorem dX4_doSteps_99 : decode cX4_doSteps 99 = .ok (.if_icmp .ge 25, 3) := by decide +kernel
theorem dX4_doSteps_102 : decode cX4_doSteps 102 = .ok (.aload_n 0, 1) := by decide +kernel
theorem dX4_doSteps_103 : decode cX4_doSteps 103 = .ok (.aload_n 1, 1) := by decide +kernel
theorem dX4_doSteps_104 : decode cX4_doSteps 104 = .ok (.aload_n 2, 1) := by decide +kernel
theorem dX4_doSteps_105 : decode cX4_doSteps 105 = .ok (.iload 6, 2) := by decide +kernel
theorem dX4_doSteps_107 : decode cX4_doSteps 107 = .ok (.iconst 1, 1) := by decide +kernel
theorem dX4_doSteps_108 : decode cX4_doSteps 108 = .ok (.iadd, 1) := by decide +kernel
theorem dX4_doSteps_109 : decode cX4_doSteps 109 = .ok (.iload 8, 2) := by decide +kernel
theorem dX4_doSteps_111 : decode cX4_doSteps 111 = .ok (.iload 5, 2) := by decide +kernel
theorem dX4_doSteps_113 : decode cX4_doSteps 113 = .ok (.iconst 1, 1) := by decide +kernel
theorem dX4_doSteps_114 : decode cX4_doSteps 114 = .ok (.iadd, 1) := by decide +kernel
theorem dX4_doSteps_115 : decode cX4_doSteps 115 = .ok (.invokevirtual 103, 3) := by decide +kernel
theorem dX4_doSteps_118 : decode cX4_doSteps 118 = .ok (.iinc 9 1, 3) := by decide +kernel
theorem dX4_doSteps_121 : decode cX4_doSteps 121 = .ok (.goto (-48), 3) := by decide +kernel
theorem dX4_doSteps_124 : decode cX4_doSteps 124 = .ok (.iload 8, 2) := by decide +kernel
theorem dX4_doSteps_126 : decode cX4_doSteps 126 = .ok (.istore 6, 2) := by decide +kernel
theorem dX4_doSteps_128 : decode cX4_doSteps 128 = .ok (.goto 58, 3) := by decide +kernel
theorem dX4_doSteps_131 : decode cX4_doSteps 131 = .ok (.aload_n 1, 1) := by decide +kernel
theorem dX4_doSteps_132 : decode cX4_doSteps 132 = .ok (.aload_n 2, 1) := by decide +kernel
theorem dX4_doSteps_133 : decode cX4_doSteps 133 = .ok (.aload_n 0, 1) := by decide +kernel
theorem dX4_doSteps_134 : decode cX4_doSteps 134 = .ok (.getfield 9, 3) := by decide +kernel
theorem dX4_doSteps_137 : decode cX4_doSteps 137 = .ok (.iload 6, 2) := by decide +kernel
theorem dX4_doSteps_139 : decode cX4_doSteps 139 = .ok (.iaload, 1) := by decide +kernel
theorem dX4_doSteps_140 : decode cX4_doSteps 140 = .ok (.aload_n 0, 1) := by decide +kernel
theorem dX4_doSteps_141 : decode cX4_doSteps 141 = .ok (.getfield 15, 3) := by decide +kernel
theorem dX4_doSteps_144 : decode cX4_doSteps 144 = .ok (.iload 6, 2) := by decide +kernel
theorem dX4_doSteps_146 : decode cX4_doSteps 146 = .ok (.iaload, 1) := by decide +kernel
theorem dX4_doSteps_147 : decode cX4_doSteps 147 = .ok (.aload_n 0, 1) := by decide +kernel
theorem dX4_doSteps_148 : decode cX4_doSteps 148 = .ok (.getfield 18, 3) := by decide +kernel
theorem dX4_doSteps_151 : decode cX4_doSteps 151 = .ok (.iload 6, 2) := by decide +kernel
theorem dX4_doSteps_153 : decode cX4_doSteps 153 = .ok (.iaload, 1) := by decide +kernel
theorem dX4_doSteps_154 : decode cX4_doSteps 154 = .ok (.invokestatic 107, 3) := by decide +kernel
theorem dX4_doSteps_157 : decode cX4_doSteps 157 = .ok (.ifCond .eq 16, 3) := by decide +kernel
theorem dX4_doSteps_160 : decode cX4_doSteps 160 = .ok (.aload_n 0, 1) := by decide +kernel
theorem dX4_doSteps_161 : decode cX4_doSteps 161 = .ok (.dup, 1) := by decide +kernel
theorem dX4_doSteps_162 : decode cX4_doSteps 162 = .ok (.getfield 97, 3) := by decide +kernel
theorem dX4_doSteps_165 : decode cX4_doSteps 165 = .ok (.iconst 1, 1) := by decide +kernel
theorem dX4_doSteps_166 : decode cX4_doSteps 166 = .ok (.iadd, 1) := by decide +kernel
theorem dX4_doSteps_167 : decode cX4_doSteps 167 = .ok (.putfield 97, 3) := by decide +kernel
theorem dX4_doSteps_170 : decode cX4_doSteps 170 = .ok (.goto 13, 3) := by decide +kernel
theorem dX4_doSteps_173 : decode cX4_doSteps 173 = .ok (.aload_n 0, 1) := by decide +kernel
theorem dX4_doSteps_174 : decode cX4_doSteps 174 = .ok (.dup, 1) := by decide +kernel
theorem dX4_doSteps_175 : decode cX4_doSteps 175 = .ok (.getfield 100, 3) := by decide +kernel
theorem dX4_doSteps_178 : decode cX4_doSteps 178 = .ok (.iconst 1, 1) := by decide +kernel
theorem dX4_doSteps_179 : decode cX4_doSteps 179 = .ok (.iadd, 1) := by decide +kernel
theorem dX4_doSteps_180 : decode cX4_doSteps 180 = .ok (.putfield 100, 3) := by decide +kernel
theorem dX4_doSteps_183 : decode cX4_doSteps 183 = .ok (.iinc 6 1, 3) := by decide +kernel
theorem dX4_doSteps_186 : decode cX4_doSteps 186 = .ok (.iinc 7 1, 3) := by decide +kernel
theorem dX4_doSteps_189 : decode cX4_doSteps 189 = .ok (.goto (-183), 3) := by decide +kernel
theorem dX4_doSteps_192 : decode cX4_doSteps 192 = .ok (.return_, 1) := by decide +kernel
theorem dX4_doStep_0 : decode cX4_doStep 0 = .ok (.iload_n 2, 1) := by decide +kernel
theorem dX4_doStep_1 : decode cX4_doStep 1 = .ok (.tableswitch 81 0 4 #[35, 44, 53, 59, 68], 35) := by decide +kernel
theorem dX4_doStep_36 : decode cX4_doStep 36 = .ok (.aload_n 1, 1) := by decide +kernel
theorem dX4_doStep_37 : decode cX4_doStep 37 = .ok (.iload_n 3, 1) := by decide +kernel
theorem dX4_doStep_38 : decode cX4_doStep 38 = .ok (.iload 4, 2) := by decide +kernel
theorem dX4_doStep_40 : decode cX4_doStep 40 = .ok (.iconst 1, 1) := by decide +kernel
theorem dX4_doStep_41 : decode cX4_doStep 41 = .ok (.invokevirtual 111, 3) := by decide +kernel
theorem dX4_doStep_44 : decode cX4_doStep 44 = .ok (.ireturn, 1) := by decide +kernel
theorem dX4_doStep_45 : decode cX4_doStep 45 = .ok (.aload_n 1, 1) := by decide +kernel
theorem dX4_doStep_46 : decode cX4_doStep 46 = .ok (.iload_n 3, 1) := by decide +kernel
theorem dX4_doStep_47 : decode cX4_doStep 47 = .ok (.iload 4, 2) := by decide +kernel
theorem dX4_doStep_49 : decode cX4_doStep 49 = .ok (.iconst 0, 1) := by decide +kernel
theorem dX4_doStep_50 : decode cX4_doStep 50 = .ok (.invokevirtual 111, 3) := by decide +kernel
theorem dX4_doStep_53 : decode cX4_doStep 53 = .ok (.ireturn, 1) := by decide +kernel
theorem dX4_doStep_54 : decode cX4_doStep 54 = .ok (.aload_n 1, 1) := by decide +kernel
theorem dX4_doStep_55 : decode cX4_doStep 55 = .ok (.iload_n 3, 1) := by decide +kernel
theorem dX4_doStep_56 : decode cX4_doStep 56 = .ok (.invokevirtual 117, 3) := by decide +kernel
theorem dX4_doStep_59 : decode cX4_doStep 59 = .ok (.ireturn, 1) := by decide +kernel
theorem dX4_doStep_60 : decode cX4_doStep 60 = .ok (.aload_n 0, 1) := by decide +kernel
theorem dX4_doStep_61 : decode cX4_doStep 61 = .ok (.aload_n 1, 1) := by decide +kernel
theorem dX4_doStep_62 : decode cX4_doStep 62 = .ok (.iload_n 3, 1) := by decide +kernel
theorem dX4_doStep_63 : decode cX4_doStep 63 = .ok (.iload 4, 2) := by decide +kernel
theorem dX4_doStep_65 : decode cX4_doStep 65 = .ok (.invokevirtual 120, 3) := by decide +kernel
theorem dX4_doStep_68 : decode cX4_doStep 68 = .ok (.ireturn, 1) := by decide +kernel
theorem dX4_doStep_69 : decode cX4_doStep 69 = .ok (.aload_n 1, 1) := by decide +kernel
theorem dX4_doStep_70 : decode cX4_doStep 70 = .ok (.aload_n 1, 1) := by decide +kernel
theorem dX4_doStep_71 : decode cX4_doStep 71 = .ok (.iload_n 3, 1) := by decide +kernel
theorem dX4_doStep_72 : decode cX4_doStep 72 = .ok (.iload 4, 2) := by decide +kernel
theorem dX4_doStep_74 : decode cX4_doStep 74 = .ok (.invokevirtual 126, 3) := by decide +kernel
theorem dX4_doStep_77 : decode cX4_doStep 77 = .ok (.iconst 0, 1) := by decide +kernel
theorem dX4_doStep_78 : decode cX4_doStep 78 = .ok (.invokevirtual 130, 3) := by decide +kernel
theorem dX4_doStep_81 : decode cX4_doStep 81 = .ok (.ireturn, 1) := by decide +kernel
theorem dX4_doStep_82 : decode cX4_doStep 82 = .ok (.aload_n 1, 1) := by decide +kernel
theorem dX4_doStep_83 : decode cX4_doStep 83 = .ok (.getfield 133, 3) := by decide +kernel
theorem dX4_doStep_86 : decode cX4_doStep 86 = .ok (.sipush 300, 3) := by decide +kernel
theorem dX4_doStep_89 : decode cX4_doStep 89 = .ok (.if_icmp .lt 5, 3) := by decide +kernel
theorem dX4_doStep_92 : decode cX4_doStep 92 = .ok (.iconst 0, 1) := by decide +kernel
theorem dX4_doStep_93 : decode cX4_doStep 93 = .ok (.ireturn, 1) := by decide +kernel
theorem dX4_doStep_94 : decode cX4_doStep 94 = .ok (.aload_n 1, 1) := by decide +kernel
theorem dX4_doStep_95 : decode cX4_doStep 95 = .ok (.invokevirtual 135, 3) := by decide +kernel
theorem dX4_doStep_98 : decode cX4_doStep 98 = .ok (.iconst 1, 1) := by decide +kernel
theorem dX4_doStep_99 : decode cX4_doStep 99 = .ok (.ireturn, 1) := by decide +kernel
theorem dX5_init_0 : decode cX5_init 0 = .ok (.aload_n 0, 1) := by decide +kernel
theorem dX5_init_1 : decode cX5_init 1 = .ok (.invokespecial 3, 3) := by decide +kernel
theorem dX5_init_4 : decode cX5_init 4 = .ok (.aload_n 0, 1) := by decide +kernel
theorem dX5_init_5 : decode cX5_init 5 = .ok (.new 9, 3) := by decide +kernel
theorem dX5_init_8 : decode cX5_init 8 = .ok (.dup, 1) := by decide +kernel
theorem dX5_init_9 : decode cX5_init 9 = .ok (.invokespecial 11, 3) := by decide +kernel
theorem dX5_init_12 : decode cX5_init 12 = .ok (.putfield 12, 3) := by decide +kernel
theorem dX5_init_15 : decode cX5_init 15 = .ok (.aload_n 0, 1) := by decide +kernel
theorem dX5_init_16 : decode cX5_init 16 = .ok (.new 18, 3) := by decide +kernel
theorem dX5_init_19 : decode cX5_init 19 = .ok (.dup, 1) := by decide +kernel
theorem dX5_init_20 : decode cX5_init 20 = .ok (.invokespecial 20, 3) := by decide +kernel
theorem dX5_init_23 : decode cX5_init 23 = .ok (.putfield 21, 3) := by decide +kernel
theorem dX5_init_26 : decode cX5_init 26 = .ok (.aload_n 0, 1) := by decide +kernel
theorem dX5_init_27 : decode cX5_init 27 = .ok (.bipush 8, 2) := by decide +kernel
theorem dX5_init_29 : decode cX5_init 29 = .ok (.newarray .int, 2) := by decide +kernel
theorem dX5_init_31 : decode cX5_init 31 = .ok (.putfield 25, 3) := by decide +kernel
theorem dX5_init_34 : decode cX5_init 34 = .ok (.return_, 1) := by decide +kernel
theorem dX5_slipsToNearest_0 : decode cX5_slipsToNearest 0 = .ok (.iconst (-1), 1) := by decide +kernel
theorem dX5_slipsToNearest_1 : decode cX5_slipsToNearest 1 = .ok (.istore_n 3, 1) := by decide +kernel
theorem dX5_slipsToNearest_2 : decode cX5_slipsToNearest 2 = .ok (.iconst 0, 1) := by decide +kernel
theorem dX5_slipsToNearest_3 : decode cX5_slipsToNearest 3 = .ok (.istore 4, 2) := by decide +kernel
theorem dX5_slipsToNearest_5 : decode cX5_slipsToNearest 5 = .ok (.iload 4, 2) := by decide +kernel
theorem dX5_slipsToNearest_7 : decode cX5_slipsToNearest 7 = .ok (.aload_n 0, 1) := by decide +kernel
theorem dX5_slipsToNearest_8 : decode cX5_slipsToNearest 8 = .ok (.getfield 12, 3) := by decide +kernel
theorem dX5_slipsToNearest_11 : decode cX5_slipsToNearest 11 = .ok (.getfield 29, 3) := by decide +kernel
theorem dX5_slipsToNearest_14 : decode cX5_slipsToNearest 14 = .ok (.iload_n 2, 1) := by decide +kernel
theorem dX5_slipsToNearest_15 : decode cX5_slipsToNearest 15 = .ok (.iaload, 1) := by decide +kernel
theorem dX5_slipsToNearest_16 : decode cX5_slipsToNearest 16 = .ok (.if_icmp .ge 45, 3) := by decide +kernel
theorem dX5_slipsToNearest_19 : decode cX5_slipsToNearest 19 = .ok (.iload_n 1, 1) := by decide +kernel
theorem dX5_slipsToNearest_20 : decode cX5_slipsToNearest 20 = .ok (.aload_n 0, 1) := by decide +kernel
theorem dX5_slipsToNearest_21 : decode cX5_slipsToNearest 21 = .ok (.getfield 12, 3) := by decide +kernel
theorem dX5_slipsToNearest_24 : decode cX5_slipsToNearest 24 = .ok (.getfield 32, 3) := by decide +kernel
theorem dX5_slipsToNearest_27 : decode cX5_slipsToNearest 27 = .ok (.iload_n 2, 1) := by decide +kernel
theorem dX5_slipsToNearest_28 : decode cX5_slipsToNearest 28 = .ok (.aaload, 1) := by decide +kernel
theorem dX5_slipsToNearest_29 : decode cX5_slipsToNearest 29 = .ok (.iload 4, 2) := by decide +kernel
theorem dX5_slipsToNearest_31 : decode cX5_slipsToNearest 31 = .ok (.iaload, 1) := by decide +kernel
theorem dX5_slipsToNearest_32 : decode cX5_slipsToNearest 32 = .ok (.ixor, 1) := by decide +kernel
theorem dX5_slipsToNearest_33 : decode cX5_slipsToNearest 33 = .ok (.invokestatic 36, 3) := by decide +kernel
theorem dX5_slipsToNearest_36 : decode cX5_slipsToNearest 36 = .ok (.istore 5, 2) := by decide +kernel
theorem dX5_slipsToNearest_38 : decode cX5_slipsToNearest 38 = .ok (.iload_n 3, 1) := by decide +kernel
theorem dX5_slipsToNearest_39 : decode cX5_slipsToNearest 39 = .ok (.iconst (-1), 1) := by decide +kernel
theorem dX5_slipsToNearest_40 : decode cX5_slipsToNearest 40 = .ok (.if_icmp .ne 8, 3) := by decide +kernel
theorem dX5_slipsToNearest_43 : decode cX5_slipsToNearest 43 = .ok (.iload 5, 2) := by decide +kernel
theorem dX5_slipsToNearest_45 : decode cX5_slipsToNearest 45 = .ok (.goto 9, 3) := by decide +kernel
theorem dX5_slipsToNearest_48 : decode cX5_slipsToNearest 48 = .ok (.iload_n 3, 1) := by decide +kernel
theorem dX5_slipsToNearest_49 : decode cX5_slipsToNearest 49 = .ok (.iload 5, 2) := by decide +kernel
theorem dX5_slipsToNearest_51 : decode cX5_slipsToNearest 51 = .ok (.invokestatic 42, 3) := by decide +kernel
theorem dX5_slipsToNearest_54 : decode cX5_slipsToNearest 54 = .ok (.istore_n 3, 1) := by decide +kernel
theorem dX5_slipsToNearest_55 : decode cX5_slipsToNearest 55 = .ok (.iinc 4 1, 3) := by decide +kernel
theorem dX5_slipsToNearest_58 : decode cX5_slipsToNearest 58 = .ok (.goto (-53), 3) := by decide +kernel
theorem dX5_slipsToNearest_61 : decode cX5_slipsToNearest 61 = .ok (.iload_n 3, 1) := by decide +kernel
theorem dX5_slipsToNearest_62 : decode cX5_slipsToNearest 62 = .ok (.ireturn, 1) := by decide +kernel
theorem dX5_nearestListed_0 : decode cX5_nearestListed 0 = .ok (.aload_n 0, 1) := by decide +kernel
theorem dX5_nearestListed_1 : decode cX5_nearestListed 1 = .ok (.iload_n 1, 1) := by decide +kernel
theorem dX5_nearestListed_2 : decode cX5_nearestListed 2 = .ok (.iload_n 2, 1) := by decide +kernel
theorem dX5_nearestListed_3 : decode cX5_nearestListed 3 = .ok (.invokevirtual 48, 3) := by decide +kernel
theorem dX5_nearestListed_6 : decode cX5_nearestListed 6 = .ok (.istore_n 3, 1) := by decide +kernel
theorem dX5_nearestListed_7 : decode cX5_nearestListed 7 = .ok (.iconst 0, 1) := by decide +kernel
theorem dX5_nearestListed_8 : decode cX5_nearestListed 8 = .ok (.istore 4, 2) := by decide +kernel
theorem dX5_nearestListed_10 : decode cX5_nearestListed 10 = .ok (.iload 4, 2) := by decide +kernel
theorem dX5_nearestListed_12 : decode cX5_nearestListed 12 = .ok (.aload_n 0, 1) := by decide +kernel
theorem dX5_nearestListed_13 : decode cX5_nearestListed 13 = .ok (.getfield 12, 3) := by decide +kernel
theorem dX5_nearestListed_16 : decode cX5_nearestListed 16 = .ok (.getfield 29, 3) := by decide +kernel
theorem dX5_nearestListed_19 : decode cX5_nearestListed 19 = .ok (.iload_n 2, 1) := by decide +kernel
theorem dX5_nearestListed_20 : decode cX5_nearestListed 20 = .ok (.iaload, 1) := by decide +kernel
theorem dX5_nearestListed_21 : decode cX5_nearestListed 21 = .ok (.if_icmp .ge 43, 3) := by decide +kernel
theorem dX5_nearestListed_24 : decode cX5_nearestListed 24 = .ok (.iload_n 1, 1) := by decide +kernel
theorem dX5_nearestListed_25 : decode cX5_nearestListed 25 = .ok (.aload_n 0, 1) := by decide +kernel
theorem dX5_nearestListed_26 : decode cX5_nearestListed 26 = .ok (.getfield 12, 3) := by decide +kernel
theorem dX5_nearestListed_29 : decode cX5_nearestListed 29 = .ok (.getfield 32, 3) := by decide +kernel
theorem dX5_nearestListed_32 : decode cX5_nearestListed 32 = .ok (.iload_n 2, 1) := by decide +kernel
theorem dX5_nearestListed_33 : decode cX5_nearestListed 33 = .ok (.aaload, 1) := by decide +kernel
theorem dX5_nearestListed_34 : decode cX5_nearestListed 34 = .ok (.iload 4, 2) := by decide +kernel
theorem dX5_nearestListed_36 : decode cX5_nearestListed 36 = .ok (.iaload, 1) := by decide +kernel
theorem dX5_nearestListed_37 : decode cX5_nearestListed 37 = .ok (.ixor, 1) := by decide +kernel
theorem dX5_nearestListed_38 : decode cX5_nearestListed 38 = .ok (.invokestatic 36, 3) := by decide +kernel
theorem dX5_nearestListed_41 : decode cX5_nearestListed 41 = .ok (.iload_n 3, 1) := by decide +kernel
theorem dX5_nearestListed_42 : decode cX5_nearestListed 42 = .ok (.if_icmp .ne 16, 3) := by decide +kernel
theorem dX5_nearestListed_45 : decode cX5_nearestListed 45 = .ok (.aload_n 0, 1) := by decide +kernel
theorem dX5_nearestListed_46 : decode cX5_nearestListed 46 = .ok (.getfield 12, 3) := by decide +kernel
theorem dX5_nearestListed_49 : decode cX5_nearestListed 49 = .ok (.getfield 32, 3) := by decide +kernel
theorem dX5_nearestListed_52 : decode cX5_nearestListed 52 = .ok (.iload_n 2, 1) := by decide +kernel
theorem dX5_nearestListed_53 : decode cX5_nearestListed 53 = .ok (.aaload, 1) := by decide +kernel
theorem dX5_nearestListed_54 : decode cX5_nearestListed 54 = .ok (.iload 4, 2) := by decide +kernel
theorem dX5_nearestListed_56 : decode cX5_nearestListed 56 = .ok (.iaload, 1) := by decide +kernel
theorem dX5_nearestListed_57 : decode cX5_nearestListed 57 = .ok (.ireturn, 1) := by decide +kernel
theorem dX5_nearestListed_58 : decode cX5_nearestListed 58 = .ok (.iinc 4 1, 3) := by decide +kernel
theorem dX5_nearestListed_61 : decode cX5_nearestListed 61 = .ok (.goto (-51), 3) := by decide +kernel
theorem dX5_nearestListed_64 : decode cX5_nearestListed 64 = .ok (.iconst (-1), 1) := by decide +kernel
theorem dX5_nearestListed_65 : decode cX5_nearestListed 65 = .ok (.ireturn, 1) := by decide +kernel
theorem dX5_isOpen_0 : decode cX5_isOpen 0 = .ok (.aload_n 0, 1) := by decide +kernel
theorem dX5_isOpen_1 : decode cX5_isOpen 1 = .ok (.iload_n 1, 1) := by decide +kernel
theorem dX5_isOpen_2 : decode cX5_isOpen 2 = .ok (.iload_n 2, 1) := by decide +kernel
theorem dX5_isOpen_3 : decode cX5_isOpen 3 = .ok (.invokevirtual 48, 3) := by decide +kernel
theorem dX5_isOpen_6 : decode cX5_isOpen 6 = .ok (.istore_n 3, 1) := by decide +kernel
theorem dX5_isOpen_7 : decode cX5_isOpen 7 = .ok (.iload_n 3, 1) := by decide +kernel
theorem dX5_isOpen_8 : decode cX5_isOpen 8 = .ok (.iconst (-1), 1) := by decide +kernel
theorem dX5_isOpen_9 : decode cX5_isOpen 9 = .ok (.if_icmp .eq 20, 3) := by decide +kernel
theorem dX5_isOpen_12 : decode cX5_isOpen 12 = .ok (.iload_n 3, 1) := by decide +kernel
theorem dX5_isOpen_13 : decode cX5_isOpen 13 = .ok (.aload_n 0, 1) := by decide +kernel
theorem dX5_isOpen_14 : decode cX5_isOpen 14 = .ok (.getfield 12, 3) := by decide +kernel
theorem dX5_isOpen_17 : decode cX5_isOpen 17 = .ok (.getfield 51, 3) := by decide +kernel
theorem dX5_isOpen_20 : decode cX5_isOpen 20 = .ok (.iload_n 2, 1) := by decide +kernel
theorem dX5_isOpen_21 : decode cX5_isOpen 21 = .ok (.iaload, 1) := by decide +kernel
theorem dX5_isOpen_22 : decode cX5_isOpen 22 = .ok (.if_icmp .gt 7, 3) := by decide +kernel
theorem dX5_isOpen_25 : decode cX5_isOpen 25 = .ok (.iconst 1, 1) := by decide +kernel
theorem dX5_isOpen_26 : decode cX5_isOpen 26 = .ok (.goto 4, 3) := by decide +kernel
theorem dX5_isOpen_29 : decode cX5_isOpen 29 = .ok (.iconst 0, 1) := by decide +kernel
theorem dX5_isOpen_30 : decode cX5_isOpen 30 = .ok (.ireturn, 1) := by decide +kernel
theorem dX5_gatesOpenTo_0 : decode cX5_gatesOpenTo 0 = .ok (.iconst 0, 1) := by decide +kernel
theorem dX5_gatesOpenTo_1 : decode cX5_gatesOpenTo 1 = .ok (.istore_n 2, 1) := by decide +kernel
theorem dX5_gatesOpenTo_2 : decode cX5_gatesOpenTo 2 = .ok (.iconst 0, 1) := by decide +kernel
theorem dX5_gatesOpenTo_3 : decode cX5_gatesOpenTo 3 = .ok (.istore_n 3, 1) := by decide +kernel
theorem dX5_gatesOpenTo_4 : decode cX5_gatesOpenTo 4 = .ok (.iload_n 3, 1) := by decide +kernel
theorem dX5_gatesOpenTo_5 : decode cX5_gatesOpenTo 5 = .ok (.aload_n 0, 1) := by decide +kernel
theorem dX5_gatesOpenTo_6 : decode cX5_gatesOpenTo 6 = .ok (.getfield 12, 3) := by decide +kernel
theorem dX5_gatesOpenTo_9 : decode cX5_gatesOpenTo 9 = .ok (.getfield 54, 3) := by decide +kernel
theorem dX5_gatesOpenTo_12 : decode cX5_gatesOpenTo 12 = .ok (.if_icmp .ge 24, 3) := by decide +kernel
theorem dX5_gatesOpenTo_15 : decode cX5_gatesOpenTo 15 = .ok (.aload_n 0, 1) := by decide +kernel
theorem dX5_gatesOpenTo_16 : decode cX5_gatesOpenTo 16 = .ok (.iload_n 1, 1) := by decide +kernel
theorem dX5_gatesOpenTo_17 : decode cX5_gatesOpenTo 17 = .ok (.iload_n 3, 1) := by decide +kernel
theorem dX5_gatesOpenTo_18 : decode cX5_gatesOpenTo 18 = .ok (.invokevirtual 58, 3) := by decide +kernel
theorem dX5_gatesOpenTo_21 : decode cX5_gatesOpenTo 21 = .ok (.ifCond .eq 9, 3) := by decide +kernel
theorem dX5_gatesOpenTo_24 : decode cX5_gatesOpenTo 24 = .ok (.iload_n 2, 1) := by decide +kernel
theorem dX5_gatesOpenTo_25 : decode cX5_gatesOpenTo 25 = .ok (.iconst 1, 1) := by decide +kernel
theorem dX5_gatesOpenTo_26 : decode cX5_gatesOpenTo 26 = .ok (.iload_n 3, 1) := by decide +kernel
theorem dX5_gatesOpenTo_27 : decode cX5_gatesOpenTo 27 = .ok (.ishl, 1) := by decide +kernel
theorem dX5_gatesOpenTo_28 : decode cX5_gatesOpenTo 28 = .ok (.ior, 1) := by decide +kernel
theorem dX5_gatesOpenTo_29 : decode cX5_gatesOpenTo 29 = .ok (.istore_n 2, 1) := by decide +kernel
theorem dX5_gatesOpenTo_30 : decode cX5_gatesOpenTo 30 = .ok (.iinc 3 1, 3) := by decide +kernel
theorem dX5_gatesOpenTo_33 : decode cX5_gatesOpenTo 33 = .ok (.goto (-29), 3) := by decide +kernel
theorem dX5_gatesOpenTo_36 : decode cX5_gatesOpenTo 36 = .ok (.iload_n 2, 1) := by decide +kernel
theorem dX5_gatesOpenTo_37 : decode cX5_gatesOpenTo 37 = .ok (.ireturn, 1) := by decide +kernel
theorem dX5_beastsLetThrough_0 : decode cX5_beastsLetThrough 0 = .ok (.iconst 0, 1) := by decide +kernel
theorem dX5_beastsLetThrough_1 : decode cX5_beastsLetThrough 1 = .ok (.istore_n 3, 1) := by decide +kernel
theorem dX5_beastsLetThrough_2 : decode cX5_beastsLetThrough 2 = .ok (.iconst 0, 1) := by decide +kernel
theorem dX5_beastsLetThrough_3 : decode cX5_beastsLetThrough 3 = .ok (.istore 4, 2) := by decide +kernel
theorem dX5_beastsLetThrough_5 : decode cX5_beastsLetThrough 5 = .ok (.iload 4, 2) := by decide +kernel
theorem dX5_beastsLetThrough_7 : decode cX5_beastsLetThrough 7 = .ok (.aload_n 1, 1) := by decide +kernel
theorem dX5_beastsLetThrough_8 : decode cX5_beastsLetThrough 8 = .ok (.getfield 62, 3) := by decide +kernel
theorem dX5_beastsLetThrough_11 : decode cX5_beastsLetThrough 11 = .ok (.if_icmp .ge 31, 3) := by decide +kernel
theorem dX5_beastsLetThrough_14 : decode cX5_beastsLetThrough 14 = .ok (.aload_n 0, 1) := by decide +kernel
theorem dX5_beastsLetThrough_15 : decode cX5_beastsLetThrough 15 = .ok (.aload_n 1, 1) := by decide +kernel
theorem dX5_beastsLetThrough_16 : decode cX5_beastsLetThrough 16 = .ok (.getfield 67, 3) := by decide +kernel
theorem dX5_beastsLetThrough_19 : decode cX5_beastsLetThrough 19 = .ok (.iload 4, 2) := by decide +kernel
theorem dX5_beastsLetThrough_21 : decode cX5_beastsLetThrough 21 = .ok (.iaload, 1) := by decide +kernel
theorem dX5_beastsLetThrough_22 : decode cX5_beastsLetThrough 22 = .ok (.iload_n 2, 1) := by decide +kernel
theorem dX5_beastsLetThrough_23 : decode cX5_beastsLetThrough 23 = .ok (.invokevirtual 58, 3) := by decide +kernel
theorem dX5_beastsLetThrough_26 : decode cX5_beastsLetThrough 26 = .ok (.ifCond .eq 10, 3) := by decide +kernel
theorem dX5_beastsLetThrough_29 : decode cX5_beastsLetThrough 29 = .ok (.iload_n 3, 1) := by decide +kernel
theorem dX5_beastsLetThrough_30 : decode cX5_beastsLetThrough 30 = .ok (.iconst 1, 1) := by decide +kernel
theorem dX5_beastsLetThrough_31 : decode cX5_beastsLetThrough 31 = .ok (.iload 4, 2) := by decide +kernel
theorem dX5_beastsLetThrough_33 : decode cX5_beastsLetThrough 33 = .ok (.ishl, 1) := by decide +kernel
theorem dX5_beastsLetThrough_34 : decode cX5_beastsLetThrough 34 = .ok (.ior, 1) := by decide +kernel
theorem dX5_beastsLetThrough_35 : decode cX5_beastsLetThrough 35 = .ok (.istore_n 3, 1) := by decide +kernel
theorem dX5_beastsLetThrough_36 : decode cX5_beastsLetThrough 36 = .ok (.iinc 4 1, 3) := by decide +kernel
theorem dX5_beastsLetThrough_39 : decode cX5_beastsLetThrough 39 = .ok (.goto (-34), 3) := by decide +kernel
theorem dX5_beastsLetThrough_42 : decode cX5_beastsLetThrough 42 = .ok (.iload_n 3, 1) := by decide +kernel
theorem dX5_beastsLetThrough_43 : decode cX5_beastsLetThrough 43 = .ok (.ireturn, 1) := by decide +kernel
theorem dX5_feeOf_0 : decode cX5_feeOf 0 = .ok (.aload_n 0, 1) := by decide +kernel
theorem dX5_feeOf_1 : decode cX5_feeOf 1 = .ok (.aload_n 1, 1) := by decide +kernel
theorem dX5_feeOf_2 : decode cX5_feeOf 2 = .ok (.getfield 67, 3) := by decide +kernel
theorem dX5_feeOf_5 : decode cX5_feeOf 5 = .ok (.iload_n 2, 1) := by decide +kernel
theorem dX5_feeOf_6 : decode cX5_feeOf 6 = .ok (.iaload, 1) := by decide +kernel
theorem dX5_feeOf_7 : decode cX5_feeOf 7 = .ok (.iload_n 3, 1) := by decide +kernel
theorem dX5_feeOf_8 : decode cX5_feeOf 8 = .ok (.invokevirtual 48, 3) := by decide +kernel
theorem dX5_feeOf_11 : decode cX5_feeOf 11 = .ok (.istore 5, 2) := by decide +kernel
theorem dX5_feeOf_13 : decode cX5_feeOf 13 = .ok (.iload 5, 2) := by decide +kernel
theorem dX5_feeOf_15 : decode cX5_feeOf 15 = .ok (.iconst (-1), 1) := by decide +kernel
theorem dX5_feeOf_16 : decode cX5_feeOf 16 = .ok (.if_icmp .ne 5, 3) := by decide +kernel
theorem dX5_feeOf_19 : decode cX5_feeOf 19 = .ok (.iconst (-1), 1) := by decide +kernel
theorem dX5_feeOf_20 : decode cX5_feeOf 20 = .ok (.ireturn, 1) := by decide +kernel
theorem dX5_feeOf_21 : decode cX5_feeOf 21 = .ok (.aload_n 0, 1) := by decide +kernel
theorem dX5_feeOf_22 : decode cX5_feeOf 22 = .ok (.aload_n 1, 1) := by decide +kernel
theorem dX5_feeOf_23 : decode cX5_feeOf 23 = .ok (.iload_n 2, 1) := by decide +kernel
theorem dX5_feeOf_24 : decode cX5_feeOf 24 = .ok (.iload_n 3, 1) := by decide +kernel
theorem dX5_feeOf_25 : decode cX5_feeOf 25 = .ok (.iload 5, 2) := by decide +kernel
theorem dX5_feeOf_27 : decode cX5_feeOf 27 = .ok (.iload 4, 2) := by decide +kernel
theorem dX5_feeOf_29 : decode cX5_feeOf 29 = .ok (.invokevirtual 70, 3) := by decide +kernel
theorem dX5_feeOf_32 : decode cX5_feeOf 32 = .ok (.aload_n 0, 1) := by decide +kernel
theorem dX5_feeOf_33 : decode cX5_feeOf 33 = .ok (.getfield 21, 3) := by decide +kernel
theorem dX5_feeOf_36 : decode cX5_feeOf 36 = .ok (.aload_n 0, 1) := by decide +kernel
theorem dX5_feeOf_37 : decode cX5_feeOf 37 = .ok (.getfield 25, 3) := by decide +kernel
theorem dX5_feeOf_40 : decode cX5_feeOf 40 = .ok (.invokevirtual 74, 3) := by decide +kernel
theorem dX5_feeOf_43 : decode cX5_feeOf 43 = .ok (.ireturn, 1) := by decide +kernel
theorem dX5_noteFacts_0 : decode cX5_noteFacts 0 = .ok (.aload_n 0, 1) := by decide +kernel
theorem dX5_noteFacts_1 : decode cX5_noteFacts 1 = .ok (.getfield 25, 3) := by decide +kernel
theorem dX5_noteFacts_4 : decode cX5_noteFacts 4 = .ok (.iconst 0, 1) := by decide +kernel
theorem dX5_noteFacts_5 : decode cX5_noteFacts 5 = .ok (.aload_n 0, 1) := by decide +kernel
theorem dX5_noteFacts_6 : decode cX5_noteFacts 6 = .ok (.getfield 12, 3) := by decide +kernel
theorem dX5_noteFacts_9 : decode cX5_noteFacts 9 = .ok (.getfield 78, 3) := by decide +kernel
theorem dX5_noteFacts_12 : decode cX5_noteFacts 12 = .ok (.iload_n 3, 1) := by decide +kernel
theorem dX5_noteFacts_13 : decode cX5_noteFacts 13 = .ok (.iaload, 1) := by decide +kernel
theorem dX5_noteFacts_14 : decode cX5_noteFacts 14 = .ok (.iastore, 1) := by decide +kernel
theorem dX5_noteFacts_15 : decode cX5_noteFacts 15 = .ok (.aload_n 0, 1) := by decide +kernel
theorem dX5_noteFacts_16 : decode cX5_noteFacts 16 = .ok (.getfield 25, 3) := by decide +kernel
theorem dX5_noteFacts_19 : decode cX5_noteFacts 19 = .ok (.iconst 1, 1) := by decide +kernel
theorem dX5_noteFacts_20 : decode cX5_noteFacts 20 = .ok (.iload 4, 2) := by decide +kernel
theorem dX5_noteFacts_22 : decode cX5_noteFacts 22 = .ok (.iastore, 1) := by decide +kernel
theorem dX5_noteFacts_23 : decode cX5_noteFacts 23 = .ok (.aload_n 0, 1) := by decide +kernel
theorem dX5_noteFacts_24 : decode cX5_noteFacts 24 = .ok (.getfield 25, 3) := by decide +kernel
theorem dX5_noteFacts_27 : decode cX5_noteFacts 27 = .ok (.iconst 2, 1) := by decide +kernel
theorem dX5_noteFacts_28 : decode cX5_noteFacts 28 = .ok (.aload_n 1, 1) := by decide +kernel
theorem dX5_noteFacts_29 : decode cX5_noteFacts 29 = .ok (.getfield 67, 3) := by decide +kernel
theorem dX5_noteFacts_32 : decode cX5_noteFacts 32 = .ok (.iload_n 2, 1) := by decide +kernel
theorem dX5_noteFacts_33 : decode cX5_noteFacts 33 = .ok (.iaload, 1) := by decide +kernel
theorem dX5_noteFacts_34 : decode cX5_noteFacts 34 = .ok (.invokestatic 36, 3) := by decide +kernel
theorem dX5_noteFacts_37 : decode cX5_noteFacts 37 = .ok (.iastore, 1) := by decide +kernel
theorem dX5_noteFacts_38 : decode cX5_noteFacts 38 = .ok (.aload_n 0, 1) := by decide +kernel
theorem dX5_noteFacts_39 : decode cX5_noteFacts 39 = .ok (.getfield 25, 3) := by decide +kernel
theorem dX5_noteFacts_42 : decode cX5_noteFacts 42 = .ok (.iconst 3, 1) := by decide +kernel
theorem dX5_noteFacts_43 : decode cX5_noteFacts 43 = .ok (.aload_n 1, 1) := by decide +kernel
theorem dX5_noteFacts_44 : decode cX5_noteFacts 44 = .ok (.getfield 81, 3) := by decide +kernel
theorem dX5_noteFacts_47 : decode cX5_noteFacts 47 = .ok (.iload_n 2, 1) := by decide +kernel
theorem dX5_noteFacts_48 : decode cX5_noteFacts 48 = .ok (.iaload, 1) := by decide +kernel
theorem dX5_noteFacts_49 : decode cX5_noteFacts 49 = .ok (.iastore, 1) := by decide +kernel
theorem dX5_noteFacts_50 : decode cX5_noteFacts 50 = .ok (.aload_n 0, 1) := by decide +kernel
theorem dX5_noteFacts_51 : decode cX5_noteFacts 51 = .ok (.getfield 25, 3) := by decide +kernel
theorem dX5_noteFacts_54 : decode cX5_noteFacts 54 = .ok (.iconst 4, 1) := by decide +kernel
theorem dX5_noteFacts_55 : decode cX5_noteFacts 55 = .ok (.iload 5, 2) := by decide +kernel
theorem dX5_noteFacts_57 : decode cX5_noteFacts 57 = .ok (.iastore, 1) := by decide +kernel
theorem dX5_noteFacts_58 : decode cX5_noteFacts 58 = .ok (.aload_n 0, 1) := by decide +kernel
theorem dX5_noteFacts_59 : decode cX5_noteFacts 59 = .ok (.getfield 25, 3) := by decide +kernel
theorem dX5_noteFacts_62 : decode cX5_noteFacts 62 = .ok (.iconst 5, 1) := by decide +kernel
theorem dX5_noteFacts_63 : decode cX5_noteFacts 63 = .ok (.aload_n 1, 1) := by decide +kernel
theorem dX5_noteFacts_64 : decode cX5_noteFacts 64 = .ok (.getfield 84, 3) := by decide +kernel
theorem dX5_noteFacts_67 : decode cX5_noteFacts 67 = .ok (.iload_n 2, 1) := by decide +kernel
theorem dX5_noteFacts_68 : decode cX5_noteFacts 68 = .ok (.iaload, 1) := by decide +kernel
theorem dX5_noteFacts_69 : decode cX5_noteFacts 69 = .ok (.iastore, 1) := by decide +kernel
theorem dX5_noteFacts_70 : decode cX5_noteFacts 70 = .ok (.aload_n 0, 1) := by decide +kernel
theorem dX5_noteFacts_71 : decode cX5_noteFacts 71 = .ok (.getfield 25, 3) := by decide +kernel
theorem dX5_noteFacts_74 : decode cX5_noteFacts 74 = .ok (.bipush 6, 2) := by decide +kernel
theorem dX5_noteFacts_76 : decode cX5_noteFacts 76 = .ok (.aload_n 1, 1) := by decide +kernel
theorem dX5_noteFacts_77 : decode cX5_noteFacts 77 = .ok (.getfield 67, 3) := by decide +kernel
theorem dX5_noteFacts_80 : decode cX5_noteFacts 80 = .ok (.iload_n 2, 1) := by decide +kernel
theorem dX5_noteFacts_81 : decode cX5_noteFacts 81 = .ok (.iaload, 1) := by decide +kernel
theorem dX5_noteFacts_82 : decode cX5_noteFacts 82 = .ok (.iastore, 1) := by decide +kernel
theorem dX5_noteFacts_83 : decode cX5_noteFacts 83 = .ok (.aload_n 0, 1) := by decide +kernel
theorem dX5_noteFacts_84 : decode cX5_noteFacts 84 = .ok (.getfield 25, 3) := by decide +kernel
theorem dX5_noteFacts_87 : decode cX5_noteFacts 87 = .ok (.bipush 7, 2) := by decide +kernel
theorem dX5_noteFacts_89 : decode cX5_noteFacts 89 = .ok (.iload_n 3, 1) := by decide +kernel
theorem dX5_noteFacts_90 : decode cX5_noteFacts 90 = .ok (.iastore, 1) := by decide +kernel
theorem dX5_noteFacts_91 : decode cX5_noteFacts 91 = .ok (.return_, 1) := by decide +kernel
theorem dX5_priceOf_0 : decode cX5_priceOf 0 = .ok (.aload_n 0, 1) := by decide +kernel
theorem dX5_priceOf_1 : decode cX5_priceOf 1 = .ok (.aload_n 1, 1) := by decide +kernel
theorem dX5_priceOf_2 : decode cX5_priceOf 2 = .ok (.getfield 67, 3) := by decide +kernel
theorem dX5_priceOf_5 : decode cX5_priceOf 5 = .ok (.iload_n 2, 1) := by decide +kernel
theorem dX5_priceOf_6 : decode cX5_priceOf 6 = .ok (.iaload, 1) := by decide +kernel
theorem dX5_priceOf_7 : decode cX5_priceOf 7 = .ok (.iload_n 3, 1) := by decide +kernel
theorem dX5_priceOf_8 : decode cX5_priceOf 8 = .ok (.invokevirtual 48, 3) := by decide +kernel
theorem dX5_priceOf_11 : decode cX5_priceOf 11 = .ok (.istore 4, 2) := by decide +kernel
theorem dX5_priceOf_13 : decode cX5_priceOf 13 = .ok (.iload 4, 2) := by decide +kernel
theorem dX5_priceOf_15 : decode cX5_priceOf 15 = .ok (.iconst (-1), 1) := by decide +kernel
theorem dX5_priceOf_16 : decode cX5_priceOf 16 = .ok (.if_icmp .eq 17, 3) := by decide +kernel
theorem dX5_priceOf_19 : decode cX5_priceOf 19 = .ok (.iload 4, 2) := by decide +kernel
theorem dX5_priceOf_21 : decode cX5_priceOf 21 = .ok (.aload_n 0, 1) := by decide +kernel
theorem dX5_priceOf_22 : decode cX5_priceOf 22 = .ok (.getfield 12, 3) := by decide +kernel
theorem dX5_priceOf_25 : decode cX5_priceOf 25 = .ok (.getfield 51, 3) := by decide +kernel
theorem dX5_priceOf_28 : decode cX5_priceOf 28 = .ok (.iload_n 3, 1) := by decide +kernel
theorem dX5_priceOf_29 : decode cX5_priceOf 29 = .ok (.iaload, 1) := by decide +kernel
theorem dX5_priceOf_30 : decode cX5_priceOf 30 = .ok (.if_icmp .le 5, 3) := by decide +kernel
theorem dX5_priceOf_33 : decode cX5_priceOf 33 = .ok (.iconst (-1), 1) := by decide +kernel
theorem dX5_priceOf_34 : decode cX5_priceOf 34 = .ok (.ireturn, 1) := by decide +kernel
theorem dX5_priceOf_35 : decode cX5_priceOf 35 = .ok (.aload_n 0, 1) := by decide +kernel
theorem dX5_priceOf_36 : decode cX5_priceOf 36 = .ok (.aload_n 1, 1) := by decide +kernel
theorem dX5_priceOf_37 : decode cX5_priceOf 37 = .ok (.iload_n 2, 1) := by decide +kernel
theorem dX5_priceOf_38 : decode cX5_priceOf 38 = .ok (.iload_n 3, 1) := by decide +kernel
theorem dX5_priceOf_39 : decode cX5_priceOf 39 = .ok (.iload 4, 2) := by decide +kernel
theorem dX5_priceOf_41 : decode cX5_priceOf 41 = .ok (.aload_n 1, 1) := by decide +kernel
theorem dX5_priceOf_42 : decode cX5_priceOf 42 = .ok (.getfield 87, 3) := by decide +kernel
theorem dX5_priceOf_45 : decode cX5_priceOf 45 = .ok (.iload_n 3, 1) := by decide +kernel
theorem dX5_priceOf_46 : decode cX5_priceOf 46 = .ok (.iaload, 1) := by decide +kernel
theorem dX5_priceOf_47 : decode cX5_priceOf 47 = .ok (.invokevirtual 70, 3) := by decide +kernel
theorem dX5_priceOf_50 : decode cX5_priceOf 50 = .ok (.aload_n 0, 1) := by decide +kernel
theorem dX5_priceOf_51 : decode cX5_priceOf 51 = .ok (.getfield 21, 3) := by decide +kernel
theorem dX5_priceOf_54 : decode cX5_priceOf 54 = .ok (.aload_n 0, 1) := by decide +kernel
theorem dX5_priceOf_55 : decode cX5_priceOf 55 = .ok (.getfield 25, 3) := by decide +kernel
theorem dX5_priceOf_58 : decode cX5_priceOf 58 = .ok (.invokevirtual 74, 3) := by decide +kernel
theorem dX5_priceOf_61 : decode cX5_priceOf 61 = .ok (.istore 5, 2) := by decide +kernel
theorem dX5_priceOf_63 : decode cX5_priceOf 63 = .ok (.iload 5, 2) := by decide +kernel
theorem dX5_priceOf_65 : decode cX5_priceOf 65 = .ok (.aload_n 1, 1) := by decide +kernel
theorem dX5_priceOf_66 : decode cX5_priceOf 66 = .ok (.getfield 90, 3) := by decide +kernel
theorem dX5_priceOf_69 : decode cX5_priceOf 69 = .ok (.if_icmp .gt 8, 3) := by decide +kernel
theorem dX5_priceOf_72 : decode cX5_priceOf 72 = .ok (.iload 5, 2) := by decide +kernel
theorem dX5_priceOf_74 : decode cX5_priceOf 74 = .ok (.goto 4, 3) := by decide +kernel
theorem dX5_priceOf_77 : decode cX5_priceOf 77 = .ok (.iconst (-1), 1) := by decide +kernel
theorem dX5_priceOf_78 : decode cX5_priceOf 78 = .ok (.ireturn, 1) := by decide +kernel
theorem dX5_tryPass_0 : decode cX5_tryPass 0 = .ok (.aload_n 0, 1) := by decide +kernel
theorem dX5_tryPass_1 : decode cX5_tryPass 1 = .ok (.aload_n 1, 1) := by decide +kernel
theorem dX5_tryPass_2 : decode cX5_tryPass 2 = .ok (.iload_n 2, 1) := by decide +kernel
theorem dX5_tryPass_3 : decode cX5_tryPass 3 = .ok (.iload_n 3, 1) := by decide +kernel
theorem dX5_tryPass_4 : decode cX5_tryPass 4 = .ok (.invokevirtual 93, 3) := by decide +kernel
theorem dX5_tryPass_7 : decode cX5_tryPass 7 = .ok (.istore 4, 2) := by decide +kernel
theorem dX5_tryPass_9 : decode cX5_tryPass 9 = .ok (.iload 4, 2) := by decide +kernel
theorem dX5_tryPass_11 : decode cX5_tryPass 11 = .ok (.iconst (-1), 1) := by decide +kernel
theorem dX5_tryPass_12 : decode cX5_tryPass 12 = .ok (.if_icmp .ne 5, 3) := by decide +kernel
theorem dX5_tryPass_15 : decode cX5_tryPass 15 = .ok (.iconst 0, 1) := by decide +kernel
theorem dX5_tryPass_16 : decode cX5_tryPass 16 = .ok (.ireturn, 1) := by decide +kernel
theorem dX5_tryPass_17 : decode cX5_tryPass 17 = .ok (.aload_n 1, 1) := by decide +kernel
theorem dX5_tryPass_18 : decode cX5_tryPass 18 = .ok (.dup, 1) := by decide +kernel
theorem dX5_tryPass_19 : decode cX5_tryPass 19 = .ok (.getfield 90, 3) := by decide +kernel
theorem dX5_tryPass_22 : decode cX5_tryPass 22 = .ok (.iload 4, 2) := by decide +kernel
theorem dX5_tryPass_24 : decode cX5_tryPass 24 = .ok (.isub, 1) := by decide +kernel
theorem dX5_tryPass_25 : decode cX5_tryPass 25 = .ok (.putfield 90, 3) := by decide +kernel
theorem dX5_tryPass_28 : decode cX5_tryPass 28 = .ok (.aload_n 1, 1) := by decide +kernel
theorem dX5_tryPass_29 : decode cX5_tryPass 29 = .ok (.getfield 97, 3) := by decide +kernel
theorem dX5_tryPass_32 : decode cX5_tryPass 32 = .ok (.iload_n 3, 1) := by decide +kernel
theorem dX5_tryPass_33 : decode cX5_tryPass 33 = .ok (.dup2, 1) := by decide +kernel
theorem dX5_tryPass_34 : decode cX5_tryPass 34 = .ok (.iaload, 1) := by decide +kernel
theorem dX5_tryPass_35 : decode cX5_tryPass 35 = .ok (.iload 4, 2) := by decide +kernel
theorem dX5_tryPass_37 : decode cX5_tryPass 37 = .ok (.iadd, 1) := by decide +kernel
theorem dX5_tryPass_38 : decode cX5_tryPass 38 = .ok (.iastore, 1) := by decide +kernel
theorem dX5_tryPass_39 : decode cX5_tryPass 39 = .ok (.aload_n 1, 1) := by decide +kernel
theorem dX5_tryPass_40 : decode cX5_tryPass 40 = .ok (.getfield 87, 3) := by decide +kernel
theorem dX5_tryPass_43 : decode cX5_tryPass 43 = .ok (.iload_n 3, 1) := by decide +kernel
theorem dX5_tryPass_44 : decode cX5_tryPass 44 = .ok (.dup2, 1) := by decide +kernel
theorem dX5_tryPass_45 : decode cX5_tryPass 45 = .ok (.iaload, 1) := by decide +kernel
theorem dX5_tryPass_46 : decode cX5_tryPass 46 = .ok (.iconst 1, 1) := by decide +kernel
theorem dX5_tryPass_47 : decode cX5_tryPass 47 = .ok (.iadd, 1) := by decide +kernel
theorem dX5_tryPass_48 : decode cX5_tryPass 48 = .ok (.iastore, 1) := by decide +kernel
theorem dX5_tryPass_49 : decode cX5_tryPass 49 = .ok (.aload_n 1, 1) := by decide +kernel
theorem dX5_tryPass_50 : decode cX5_tryPass 50 = .ok (.getfield 84, 3) := by decide +kernel
theorem dX5_tryPass_53 : decode cX5_tryPass 53 = .ok (.iload_n 2, 1) := by decide +kernel
theorem dX5_tryPass_54 : decode cX5_tryPass 54 = .ok (.dup2, 1) := by decide +kernel
theorem dX5_tryPass_55 : decode cX5_tryPass 55 = .ok (.iaload, 1) := by decide +kernel
theorem dX5_tryPass_56 : decode cX5_tryPass 56 = .ok (.iconst 1, 1) := by decide +kernel
theorem dX5_tryPass_57 : decode cX5_tryPass 57 = .ok (.iadd, 1) := by decide +kernel
theorem dX5_tryPass_58 : decode cX5_tryPass 58 = .ok (.iastore, 1) := by decide +kernel
theorem dX5_tryPass_59 : decode cX5_tryPass 59 = .ok (.iconst 1, 1) := by decide +kernel
theorem dX5_tryPass_60 : decode cX5_tryPass 60 = .ok (.ireturn, 1) := by decide +kernel
theorem dX5_fewestStrokes_0 : decode cX5_fewestStrokes 0 = .ok (.iconst (-1), 1) := by decide +kernel
theorem dX5_fewestStrokes_1 : decode cX5_fewestStrokes 1 = .ok (.istore_n 3, 1) := by decide +kernel
theorem dX5_fewestStrokes_2 : decode cX5_fewestStrokes 2 = .ok (.iconst 0, 1) := by decide +kernel
theorem dX5_fewestStrokes_3 : decode cX5_fewestStrokes 3 = .ok (.istore 4, 2) := by decide +kernel
theorem dX5_fewestStrokes_5 : decode cX5_fewestStrokes 5 = .ok (.iload 4, 2) := by decide +kernel
theorem dX5_fewestStrokes_7 : decode cX5_fewestStrokes 7 = .ok (.aload_n 0, 1) := by decide +kernel
theorem dX5_fewestStrokes_8 : decode cX5_fewestStrokes 8 = .ok (.getfield 12, 3) := by decide +kernel
theorem dX5_fewestStrokes_11 : decode cX5_fewestStrokes 11 = .ok (.getfield 29, 3) := by decide +kernel
theorem dX5_fewestStrokes_14 : decode cX5_fewestStrokes 14 = .ok (.iload_n 2, 1) := by decide +kernel
theorem dX5_fewestStrokes_15 : decode cX5_fewestStrokes 15 = .ok (.iaload, 1) := by decide +kernel
theorem dX5_fewestStrokes_16 : decode cX5_fewestStrokes 16 = .ok (.if_icmp .ge 77, 3) := by decide +kernel
theorem dX5_fewestStrokes_19 : decode cX5_fewestStrokes 19 = .ok (.iload_n 1, 1) := by decide +kernel
theorem dX5_fewestStrokes_20 : decode cX5_fewestStrokes 20 = .ok (.aload_n 0, 1) := by decide +kernel
theorem dX5_fewestStrokes_21 : decode cX5_fewestStrokes 21 = .ok (.getfield 12, 3) := by decide +kernel
theorem dX5_fewestStrokes_24 : decode cX5_fewestStrokes 24 = .ok (.getfield 32, 3) := by decide +kernel
theorem dX5_fewestStrokes_27 : decode cX5_fewestStrokes 27 = .ok (.iload_n 2, 1) := by decide +kernel
theorem dX5_fewestStrokes_28 : decode cX5_fewestStrokes 28 = .ok (.aaload, 1) := by decide +kernel
theorem dX5_fewestStrokes_29 : decode cX5_fewestStrokes 29 = .ok (.iload 4, 2) := by decide +kernel
theorem dX5_fewestStrokes_31 : decode cX5_fewestStrokes 31 = .ok (.iaload, 1) := by decide +kernel
theorem dX5_fewestStrokes_32 : decode cX5_fewestStrokes 32 = .ok (.ixor, 1) := by decide +kernel
theorem dX5_fewestStrokes_33 : decode cX5_fewestStrokes 33 = .ok (.istore 5, 2) := by decide +kernel
theorem dX5_fewestStrokes_35 : decode cX5_fewestStrokes 35 = .ok (.iconst 0, 1) := by decide +kernel
theorem dX5_fewestStrokes_36 : decode cX5_fewestStrokes 36 = .ok (.istore 6, 2) := by decide +kernel
theorem dX5_fewestStrokes_38 : decode cX5_fewestStrokes 38 = .ok (.iload 6, 2) := by decide +kernel
theorem dX5_fewestStrokes_40 : decode cX5_fewestStrokes 40 = .ok (.aload_n 0, 1) := by decide +kernel
theorem dX5_fewestStrokes_41 : decode cX5_fewestStrokes 41 = .ok (.getfield 12, 3) := by decide +kernel
theorem dX5_fewestStrokes_44 : decode cX5_fewestStrokes 44 = .ok (.getfield 51, 3) := by decide +kernel
theorem dX5_fewestStrokes_47 : decode cX5_fewestStrokes 47 = .ok (.iload_n 2, 1) := by decide +kernel
theorem dX5_fewestStrokes_48 : decode cX5_fewestStrokes 48 = .ok (.iaload, 1) := by decide +kernel
theorem dX5_fewestStrokes_49 : decode cX5_fewestStrokes 49 = .ok (.if_icmp .ge 21, 3) := by decide +kernel
theorem dX5_fewestStrokes_52 : decode cX5_fewestStrokes 52 = .ok (.iload 5, 2) := by decide +kernel
theorem dX5_fewestStrokes_54 : decode cX5_fewestStrokes 54 = .ok (.iload 5, 2) := by decide +kernel
theorem dX5_fewestStrokes_56 : decode cX5_fewestStrokes 56 = .ok (.invokestatic 100, 3) := by decide +kernel
theorem dX5_fewestStrokes_59 : decode cX5_fewestStrokes 59 = .ok (.iconst (-1), 1) := by decide +kernel
theorem dX5_fewestStrokes_60 : decode cX5_fewestStrokes 60 = .ok (.ixor, 1) := by decide +kernel
theorem dX5_fewestStrokes_61 : decode cX5_fewestStrokes 61 = .ok (.iand, 1) := by decide +kernel
theorem dX5_fewestStrokes_62 : decode cX5_fewestStrokes 62 = .ok (.istore 5, 2) := by decide +kernel
theorem dX5_fewestStrokes_64 : decode cX5_fewestStrokes 64 = .ok (.iinc 6 1, 3) := by decide +kernel
theorem dX5_fewestStrokes_67 : decode cX5_fewestStrokes 67 = .ok (.goto (-29), 3) := by decide +kernel
theorem dX5_fewestStrokes_70 : decode cX5_fewestStrokes 70 = .ok (.iload_n 3, 1) := by decide +kernel
theorem dX5_fewestStrokes_71 : decode cX5_fewestStrokes 71 = .ok (.iconst (-1), 1) := by decide +kernel
theorem dX5_fewestStrokes_72 : decode cX5_fewestStrokes 72 = .ok (.if_icmp .eq 12, 3) := by decide +kernel
theorem dX5_fewestStrokes_75 : decode cX5_fewestStrokes 75 = .ok (.iload 5, 2) := by decide +kernel
theorem dX5_fewestStrokes_77 : decode cX5_fewestStrokes 77 = .ok (.iload_n 3, 1) := by decide +kernel
theorem dX5_fewestStrokes_78 : decode cX5_fewestStrokes 78 = .ok (.invokestatic 103, 3) := by decide +kernel
theorem dX5_fewestStrokes_81 : decode cX5_fewestStrokes 81 = .ok (.ifCond .eq 6, 3) := by decide +kernel
theorem dX5_fewestStrokes_84 : decode cX5_fewestStrokes 84 = .ok (.iload 5, 2) := by decide +kernel
theorem dX5_fewestStrokes_86 : decode cX5_fewestStrokes 86 = .ok (.istore_n 3, 1) := by decide +kernel
theorem dX5_fewestStrokes_87 : decode cX5_fewestStrokes 87 = .ok (.iinc 4 1, 3) := by decide +kernel
theorem dX5_fewestStrokes_90 : decode cX5_fewestStrokes 90 = .ok (.goto (-85), 3) := by decide +kernel
theorem dX5_fewestStrokes_93 : decode cX5_fewestStrokes 93 = .ok (.iload_n 3, 1) := by decide +kernel
theorem dX5_fewestStrokes_94 : decode cX5_fewestStrokes 94 = .ok (.ireturn, 1) := by decide +kernel
theorem dX5_isBefore_0 : decode cX5_isBefore 0 = .ok (.iload_n 0, 1) := by decide +kernel
theorem dX5_isBefore_1 : decode cX5_isBefore 1 = .ok (.invokestatic 36, 3) := by decide +kernel
theorem dX5_isBefore_4 : decode cX5_isBefore 4 = .ok (.iload_n 1, 1) := by decide +kernel
theorem dX5_isBefore_5 : decode cX5_isBefore 5 = .ok (.invokestatic 36, 3) := by decide +kernel
theorem dX5_isBefore_8 : decode cX5_isBefore 8 = .ok (.isub, 1) := by decide +kernel
theorem dX5_isBefore_9 : decode cX5_isBefore 9 = .ok (.istore_n 2, 1) := by decide +kernel
theorem dX5_isBefore_10 : decode cX5_isBefore 10 = .ok (.iload_n 2, 1) := by decide +kernel
theorem dX5_isBefore_11 : decode cX5_isBefore 11 = .ok (.ifCond .lt 12, 3) := by decide +kernel
theorem dX5_isBefore_14 : decode cX5_isBefore 14 = .ok (.iload_n 2, 1) := by decide +kernel
theorem dX5_isBefore_15 : decode cX5_isBefore 15 = .ok (.ifCond .ne 12, 3) := by decide +kernel
theorem dX5_isBefore_18 : decode cX5_isBefore 18 = .ok (.iload_n 0, 1) := by decide +kernel
theorem dX5_isBefore_19 : decode cX5_isBefore 19 = .ok (.iload_n 1, 1) := by decide +kernel
theorem dX5_isBefore_20 : decode cX5_isBefore 20 = .ok (.if_icmp .ge 7, 3) := by decide +kernel
theorem dX5_isBefore_23 : decode cX5_isBefore 23 = .ok (.iconst 1, 1) := by decide +kernel
theorem dX5_isBefore_24 : decode cX5_isBefore 24 = .ok (.goto 4, 3) := by decide +kernel
theorem dX5_isBefore_27 : decode cX5_isBefore 27 = .ok (.iconst 0, 1) := by decide +kernel
theorem dX5_isBefore_28 : decode cX5_isBefore 28 = .ok (.ireturn, 1) := by decide +kernel
theorem dX5_openingsInFog_0 : decode cX5_openingsInFog 0 = .ok (.lconst 0, 1) := by decide +kernel
theorem dX5_openingsInFog_1 : decode cX5_openingsInFog 1 = .ok (.lstore 4, 2) := by decide +kernel
theorem dX5_openingsInFog_3 : decode cX5_openingsInFog 3 = .ok (.iconst 0, 1) := by decide +kernel
theorem dX5_openingsInFog_4 : decode cX5_openingsInFog 4 = .ok (.istore 6, 2) := by decide +kernel
theorem dX5_openingsInFog_6 : decode cX5_openingsInFog 6 = .ok (.iload 6, 2) := by decide +kernel
theorem dX5_openingsInFog_8 : decode cX5_openingsInFog 8 = .ok (.sipush 256, 3) := by decide +kernel
theorem dX5_openingsInFog_11 : decode cX5_openingsInFog 11 = .ok (.if_icmp .ge 73, 3) := by decide +kernel
theorem dX5_openingsInFog_14 : decode cX5_openingsInFog 14 = .ok (.aload_n 0, 1) := by decide +kernel
theorem dX5_openingsInFog_15 : decode cX5_openingsInFog 15 = .ok (.iload_n 1, 1) := by decide +kernel
theorem dX5_openingsInFog_16 : decode cX5_openingsInFog 16 = .ok (.iload 6, 2) := by decide +kernel
theorem dX5_openingsInFog_18 : decode cX5_openingsInFog 18 = .ok (.ixor, 1) := by decide +kernel
theorem dX5_openingsInFog_19 : decode cX5_openingsInFog 19 = .ok (.iload_n 2, 1) := by decide +kernel
theorem dX5_openingsInFog_20 : decode cX5_openingsInFog 20 = .ok (.invokevirtual 58, 3) := by decide +kernel
theorem dX5_openingsInFog_23 : decode cX5_openingsInFog 23 = .ok (.ifCond .eq 55, 3) := by decide +kernel
theorem dX5_openingsInFog_26 : decode cX5_openingsInFog 26 = .ok (.lconst 1, 1) := by decide +kernel
theorem dX5_openingsInFog_27 : decode cX5_openingsInFog 27 = .ok (.lstore 7, 2) := by decide +kernel
theorem dX5_openingsInFog_29 : decode cX5_openingsInFog 29 = .ok (.iconst 0, 1) := by decide +kernel
theorem dX5_openingsInFog_30 : decode cX5_openingsInFog 30 = .ok (.istore 9, 2) := by decide +kernel
theorem dX5_openingsInFog_32 : decode cX5_openingsInFog 32 = .ok (.iload 9, 2) := by decide +kernel
theorem dX5_openingsInFog_34 : decode cX5_openingsInFog 34 = .ok (.bipush 8, 2) := by decide +kernel
theorem dX5_openingsInFog_36 : decode cX5_openingsInFog 36 = .ok (.if_icmp .ge 35, 3) := by decide +kernel
theorem dX5_openingsInFog_39 : decode cX5_openingsInFog 39 = .ok (.lload 7, 2) := by decide +kernel
theorem dX5_openingsInFog_41 : decode cX5_openingsInFog 41 = .ok (.iload 6, 2) := by decide +kernel
theorem dX5_openingsInFog_43 : decode cX5_openingsInFog 43 = .ok (.iload 9, 2) := by decide +kernel
theorem dX5_openingsInFog_45 : decode cX5_openingsInFog 45 = .ok (.ishr, 1) := by decide +kernel
theorem dX5_openingsInFog_46 : decode cX5_openingsInFog 46 = .ok (.iconst 1, 1) := by decide +kernel
theorem dX5_openingsInFog_47 : decode cX5_openingsInFog 47 = .ok (.iand, 1) := by decide +kernel
theorem dX5_openingsInFog_48 : decode cX5_openingsInFog 48 = .ok (.iconst 1, 1) := by decide +kernel
theorem dX5_openingsInFog_49 : decode cX5_openingsInFog 49 = .ok (.if_icmp .ne 8, 3) := by decide +kernel
theorem dX5_openingsInFog_52 : decode cX5_openingsInFog 52 = .ok (.iload_n 3, 1) := by decide +kernel
theorem dX5_openingsInFog_53 : decode cX5_openingsInFog 53 = .ok (.i2l, 1) := by decide +kernel
theorem dX5_openingsInFog_54 : decode cX5_openingsInFog 54 = .ok (.goto 8, 3) := by decide +kernel
theorem dX5_openingsInFog_57 : decode cX5_openingsInFog 57 = .ok (.bipush 16, 2) := by decide +kernel
theorem dX5_openingsInFog_59 : decode cX5_openingsInFog 59 = .ok (.iload_n 3, 1) := by decide +kernel
theorem dX5_openingsInFog_60 : decode cX5_openingsInFog 60 = .ok (.isub, 1) := by decide +kernel
theorem dX5_openingsInFog_61 : decode cX5_openingsInFog 61 = .ok (.i2l, 1) := by decide +kernel
theorem dX5_openingsInFog_62 : decode cX5_openingsInFog 62 = .ok (.lmul, 1) := by decide +kernel
theorem dX5_openingsInFog_63 : decode cX5_openingsInFog 63 = .ok (.lstore 7, 2) := by decide +kernel
theorem dX5_openingsInFog_65 : decode cX5_openingsInFog 65 = .ok (.iinc 9 1, 3) := by decide +kernel
theorem dX5_openingsInFog_68 : decode cX5_openingsInFog 68 = .ok (.goto (-36), 3) := by decide +kernel
theorem dX5_openingsInFog_71 : decode cX5_openingsInFog 71 = .ok (.lload 4, 2) := by decide +kernel
theorem dX5_openingsInFog_73 : decode cX5_openingsInFog 73 = .ok (.lload 7, 2) := by decide +kernel
theorem dX5_openingsInFog_75 : decode cX5_openingsInFog 75 = .ok (.ladd, 1) := by decide +kernel
theorem dX5_openingsInFog_76 : decode cX5_openingsInFog 76 = .ok (.lstore 4, 2) := by decide +kernel
theorem dX5_openingsInFog_78 : decode cX5_openingsInFog 78 = .ok (.iinc 6 1, 3) := by decide +kernel
theorem dX5_openingsInFog_81 : decode cX5_openingsInFog 81 = .ok (.goto (-75), 3) := by decide +kernel
theorem dX5_openingsInFog_84 : decode cX5_openingsInFog 84 = .ok (.lload 4, 2) := by decide +kernel
theorem dX5_openingsInFog_86 : decode cX5_openingsInFog 86 = .ok (.lreturn, 1) := by decide +kernel
theorem dX6_init_0 : decode cX6_init 0 = .ok (.aload_n 0, 1) := by decide +kernel
theorem dX6_init_1 : decode cX6_init 1 = .ok (.invokespecial 3, 3) := by decide +kernel
theorem dX6_init_4 : decode cX6_init 4 = .ok (.aload_n 0, 1) := by decide +kernel
theorem dX6_init_5 : decode cX6_init 5 = .ok (.bipush 8, 2) := by decide +kernel
theorem dX6_init_7 : decode cX6_init 7 = .ok (.newarray .int, 2) := by decide +kernel
theorem dX6_init_9 : decode cX6_init 9 = .ok (.putfield 9, 3) := by decide +kernel
theorem dX6_init_12 : decode cX6_init 12 = .ok (.aload_n 0, 1) := by decide +kernel
theorem dX6_init_13 : decode cX6_init 13 = .ok (.bipush 16, 2) := by decide +kernel
theorem dX6_init_15 : decode cX6_init 15 = .ok (.newarray .int, 2) := by decide +kernel
theorem dX6_init_17 : decode cX6_init 17 = .ok (.putfield 15, 3) := by decide +kernel
theorem dX6_init_20 : decode cX6_init 20 = .ok (.aload_n 0, 1) := by decide +kernel
theorem dX6_init_21 : decode cX6_init 21 = .ok (.sipush 256, 3) := by decide +kernel
theorem dX6_init_24 : decode cX6_init 24 = .ok (.newarray .int, 2) := by decide +kernel
theorem dX6_init_26 : decode cX6_init 26 = .ok (.putfield 18, 3) := by decide +kernel
theorem dX6_init_29 : decode cX6_init 29 = .ok (.aload_n 0, 1) := by decide +kernel
theorem dX6_init_30 : decode cX6_init 30 = .ok (.sipush 256, 3) := by decide +kernel
theorem dX6_init_33 : decode cX6_init 33 = .ok (.newarray .int, 2) := by decide +kernel
theorem dX6_init_35 : decode cX6_init 35 = .ok (.putfield 21, 3) := by decide +kernel
theorem dX6_init_38 : decode cX6_init 38 = .ok (.aload_n 0, 1) := by decide +kernel
theorem dX6_init_39 : decode cX6_init 39 = .ok (.bipush 64, 2) := by decide +kernel
theorem dX6_init_41 : decode cX6_init 41 = .ok (.newarray .int, 2) := by decide +kernel
theorem dX6_init_43 : decode cX6_init 43 = .ok (.putfield 24, 3) := by decide +kernel
theorem dX6_init_46 : decode cX6_init 46 = .ok (.return_, 1) := by decide +kernel
theorem dX6_findHerds_0 : decode cX6_findHerds 0 = .ok (.aload_n 0, 1) := by decide +kernel
theorem dX6_findHerds_1 : decode cX6_findHerds 1 = .ok (.iconst 0, 1) := by decide +kernel
theorem dX6_findHerds_2 : decode cX6_findHerds 2 = .ok (.putfield 27, 3) := by decide +kernel
theorem dX6_findHerds_5 : decode cX6_findHerds 5 = .ok (.aload_n 0, 1) := by decide +kernel
theorem dX6_findHerds_6 : decode cX6_findHerds 6 = .ok (.iconst (-1), 1) := by decide +kernel
theorem dX6_findHerds_7 : decode cX6_findHerds 7 = .ok (.putfield 31, 3) := by decide +kernel
theorem dX6_findHerds_10 : decode cX6_findHerds 10 = .ok (.aload_n 0, 1) := by decide +kernel
theorem dX6_findHerds_11 : decode cX6_findHerds 11 = .ok (.iconst 0, 1) := by decide +kernel
theorem dX6_findHerds_12 : decode cX6_findHerds 12 = .ok (.putfield 34, 3) := by decide +kernel
theorem dX6_findHerds_15 : decode cX6_findHerds 15 = .ok (.iconst 0, 1) := by decide +kernel
theorem dX6_findHerds_16 : decode cX6_findHerds 16 = .ok (.istore_n 3, 1) := by decide +kernel
theorem dX6_findHerds_17 : decode cX6_findHerds 17 = .ok (.iload_n 3, 1) := by decide +kernel
theorem dX6_findHerds_18 : decode cX6_findHerds 18 = .ok (.bipush 8, 2) := by decide +kernel
theorem dX6_findHerds_20 : decode cX6_findHerds 20 = .ok (.if_icmp .ge 16, 3) := by decide +kernel
theorem dX6_findHerds_23 : decode cX6_findHerds 23 = .ok (.aload_n 0, 1) := by decide +kernel
theorem dX6_findHerds_24 : decode cX6_findHerds 24 = .ok (.getfield 9, 3) := by decide +kernel
theorem dX6_findHerds_27 : decode cX6_findHerds 27 = .ok (.iload_n 3, 1) := by decide +kernel
theorem dX6_findHerds_28 : decode cX6_findHerds 28 = .ok (.iconst 0, 1) := by decide +kernel
theorem dX6_findHerds_29 : decode cX6_findHerds 29 = .ok (.iastore, 1) := by decide +kernel
theorem dX6_findHerds_30 : decode cX6_findHerds 30 = .ok (.iinc 3 1, 3) := by decide +kernel
theorem dX6_findHerds_33 : decode cX6_findHerds 33 = .ok (.goto (-16), 3) := by decide +kernel
theorem dX6_findHerds_36 : decode cX6_findHerds 36 = .ok (.iconst 0, 1) := by decide +kernel
theorem dX6_findHerds_37 : decode cX6_findHerds 37 = .ok (.istore_n 3, 1) := by decide +kernel
theorem dX6_findHerds_38 : decode cX6_findHerds 38 = .ok (.iload_n 3, 1) := by decide +kernel
theorem dX6_findHerds_39 : decode cX6_findHerds 39 = .ok (.iconst 1, 1) := by decide +kernel
theorem dX6_findHerds_40 : decode cX6_findHerds 40 = .ok (.aload_n 1, 1) := by decide +kernel
theorem dX6_findHerds_41 : decode cX6_findHerds 41 = .ok (.getfield 37, 3) := by decide +kernel
theorem dX6_findHerds_44 : decode cX6_findHerds 44 = .ok (.ishl, 1) := by decide +kernel
theorem dX6_findHerds_45 : decode cX6_findHerds 45 = .ok (.if_icmp .ge 73, 3) := by decide +kernel
theorem dX6_findHerds_48 : decode cX6_findHerds 48 = .ok (.aload_n 1, 1) := by decide +kernel
theorem dX6_findHerds_49 : decode cX6_findHerds 49 = .ok (.iload_n 3, 1) := by decide +kernel
theorem dX6_findHerds_50 : decode cX6_findHerds 50 = .ok (.invokestatic 42, 3) := by decide +kernel
theorem dX6_findHerds_53 : decode cX6_findHerds 53 = .ok (.iload_n 2, 1) := by decide +kernel
theorem dX6_findHerds_54 : decode cX6_findHerds 54 = .ok (.if_icmp .ne 58, 3) := by decide +kernel
theorem dX6_findHerds_57 : decode cX6_findHerds 57 = .ok (.aload_n 0, 1) := by decide +kernel
theorem dX6_findHerds_58 : decode cX6_findHerds 58 = .ok (.aload_n 0, 1) := by decide +kernel
theorem dX6_findHerds_59 : decode cX6_findHerds 59 = .ok (.getfield 27, 3) := by decide +kernel
theorem dX6_findHerds_62 : decode cX6_findHerds 62 = .ok (.ifCond .ne 7, 3) := by decide +kernel
theorem dX6_findHerds_65 : decode cX6_findHerds 65 = .ok (.iload_n 3, 1) := by decide +kernel
theorem dX6_findHerds_66 : decode cX6_findHerds 66 = .ok (.goto 7, 3) := by decide +kernel
theorem dX6_findHerds_69 : decode cX6_findHerds 69 = .ok (.aload_n 0, 1) := by decide +kernel
theorem dX6_findHerds_70 : decode cX6_findHerds 70 = .ok (.getfield 31, 3) := by decide +kernel
theorem dX6_findHerds_73 : decode cX6_findHerds 73 = .ok (.putfield 31, 3) := by decide +kernel
theorem dX6_findHerds_76 : decode cX6_findHerds 76 = .ok (.aload_n 0, 1) := by decide +kernel
theorem dX6_findHerds_77 : decode cX6_findHerds 77 = .ok (.aload_n 0, 1) := by decide +kernel
theorem dX6_findHerds_78 : decode cX6_findHerds 78 = .ok (.getfield 27, 3) := by decide +kernel
theorem dX6_findHerds_81 : decode cX6_findHerds 81 = .ok (.ifCond .ne 7, 3) := by decide +kernel
theorem dX6_findHerds_84 : decode cX6_findHerds 84 = .ok (.iload_n 3, 1) := by decide +kernel
theorem dX6_findHerds_85 : decode cX6_findHerds 85 = .ok (.goto 9, 3) := by decide +kernel
theorem dX6_findHerds_88 : decode cX6_findHerds 88 = .ok (.aload_n 0, 1) := by decide +kernel
theorem dX6_findHerds_89 : decode cX6_findHerds 89 = .ok (.getfield 34, 3) := by decide +kernel
theorem dX6_findHerds_92 : decode cX6_findHerds 92 = .ok (.iload_n 3, 1) := by decide +kernel
theorem dX6_findHerds_93 : decode cX6_findHerds 93 = .ok (.iand, 1) := by decide +kernel
theorem dX6_findHerds_94 : decode cX6_findHerds 94 = .ok (.putfield 34, 3) := by decide +kernel
theorem dX6_findHerds_97 : decode cX6_findHerds 97 = .ok (.aload_n 0, 1) := by decide +kernel
theorem dX6_findHerds_98 : decode cX6_findHerds 98 = .ok (.dup, 1) := by decide +kernel
theorem dX6_findHerds_99 : decode cX6_findHerds 99 = .ok (.getfield 27, 3) := by decide +kernel
theorem dX6_findHerds_102 : decode cX6_findHerds 102 = .ok (.iconst 1, 1) := by decide +kernel
theorem dX6_findHerds_103 : decode cX6_findHerds 103 = .ok (.iadd, 1) := by decide +kernel
theorem dX6_findHerds_104 : decode cX6_findHerds 104 = .ok (.putfield 27, 3) := by decide +kernel
theorem dX6_findHerds_107 : decode cX6_findHerds 107 = .ok (.aload_n 0, 1) := by decide +kernel
theorem dX6_findHerds_108 : decode cX6_findHerds 108 = .ok (.iload_n 3, 1) := by decide +kernel
theorem dX6_findHerds_109 : decode cX6_findHerds 109 = .ok (.invokevirtual 46, 3) := by decide +kernel
theorem dX6_findHerds_112 : decode cX6_findHerds 112 = .ok (.iinc 3 1, 3) := by decide +kernel
theorem dX6_findHerds_115 : decode cX6_findHerds 115 = .ok (.goto (-77), 3) := by decide +kernel
theorem dX6_findHerds_118 : decode cX6_findHerds 118 = .ok (.return_, 1) := by decide +kernel
theorem dX6_sumOf_0 : decode cX6_sumOf 0 = .ok (.iconst 0, 1) := by decide +kernel
theorem dX6_sumOf_1 : decode cX6_sumOf 1 = .ok (.istore_n 2, 1) := by decide +kernel
theorem dX6_sumOf_2 : decode cX6_sumOf 2 = .ok (.iconst 0, 1) := by decide +kernel
theorem dX6_sumOf_3 : decode cX6_sumOf 3 = .ok (.istore_n 3, 1) := by decide +kernel
theorem dX6_sumOf_4 : decode cX6_sumOf 4 = .ok (.iload_n 3, 1) := by decide +kernel
theorem dX6_sumOf_5 : decode cX6_sumOf 5 = .ok (.aload_n 0, 1) := by decide +kernel
theorem dX6_sumOf_6 : decode cX6_sumOf 6 = .ok (.getfield 37, 3) := by decide +kernel
theorem dX6_sumOf_9 : decode cX6_sumOf 9 = .ok (.if_icmp .ge 27, 3) := by decide +kernel
theorem dX6_sumOf_12 : decode cX6_sumOf 12 = .ok (.iload_n 1, 1) := by decide +kernel
theorem dX6_sumOf_13 : decode cX6_sumOf 13 = .ok (.iload_n 3, 1) := by decide +kernel
theorem dX6_sumOf_14 : decode cX6_sumOf 14 = .ok (.ishr, 1) := by decide +kernel
theorem dX6_sumOf_15 : decode cX6_sumOf 15 = .ok (.iconst 1, 1) := by decide +kernel
theorem dX6_sumOf_16 : decode cX6_sumOf 16 = .ok (.iand, 1) := by decide +kernel
theorem dX6_sumOf_17 : decode cX6_sumOf 17 = .ok (.iconst 1, 1) := by decide +kernel
theorem dX6_sumOf_18 : decode cX6_sumOf 18 = .ok (.if_icmp .ne 12, 3) := by decide +kernel
theorem dX6_sumOf_21 : decode cX6_sumOf 21 = .ok (.iload_n 2, 1) := by decide +kernel
theorem dX6_sumOf_22 : decode cX6_sumOf 22 = .ok (.aload_n 0, 1) := by decide +kernel
theorem dX6_sumOf_23 : decode cX6_sumOf 23 = .ok (.getfield 50, 3) := by decide +kernel
theorem dX6_sumOf_26 : decode cX6_sumOf 26 = .ok (.iload_n 3, 1) := by decide +kernel
theorem dX6_sumOf_27 : decode cX6_sumOf 27 = .ok (.iaload, 1) := by decide +kernel
theorem dX6_sumOf_28 : decode cX6_sumOf 28 = .ok (.iadd, 1) := by decide +kernel
theorem dX6_sumOf_29 : decode cX6_sumOf 29 = .ok (.istore_n 2, 1) := by decide +kernel
theorem dX6_sumOf_30 : decode cX6_sumOf 30 = .ok (.iinc 3 1, 3) := by decide +kernel
theorem dX6_sumOf_33 : decode cX6_sumOf 33 = .ok (.goto (-29), 3) := by decide +kernel
theorem dX6_sumOf_36 : decode cX6_sumOf 36 = .ok (.iload_n 2, 1) := by decide +kernel
theorem dX6_sumOf_37 : decode cX6_sumOf 37 = .ok (.ireturn, 1) := by decide +kernel
theorem dX6_addMembers_0 : decode cX6_addMembers 0 = .ok (.iconst 0, 1) := by decide +kernel
theorem dX6_addMembers_1 : decode cX6_addMembers 1 = .ok (.istore_n 2, 1) := by decide +kernel
theorem dX6_addMembers_2 : decode cX6_addMembers 2 = .ok (.iload_n 2, 1) := by decide +kernel
theorem dX6_addMembers_3 : decode cX6_addMembers 3 = .ok (.bipush 8, 2) := by decide +kernel
theorem dX6_addMembers_5 : decode cX6_addMembers 5 = .ok (.if_icmp .ge 23, 3) := by decide +kernel
theorem dX6_addMembers_8 : decode cX6_addMembers 8 = .ok (.aload_n 0, 1) := by decide +kernel
theorem dX6_addMembers_9 : decode cX6_addMembers 9 = .ok (.getfield 9, 3) := by decide +kernel
theorem dX6_addMembers_12 : decode cX6_addMembers 12 = .ok (.iload_n 2, 1) := by decide +kernel
theorem dX6_addMembers_13 : decode cX6_addMembers 13 = .ok (.dup2, 1) := by decide +kernel
theorem dX6_addMembers_14 : decode cX6_addMembers 14 = .ok (.iaload, 1) := by decide +kernel
theorem dX6_addMembers_15 : decode cX6_addMembers 15 = .ok (.iload_n 1, 1) := by decide +kernel
theorem dX6_addMembers_16 : decode cX6_addMembers 16 = .ok (.iload_n 2, 1) := by decide +kernel
theorem dX6_addMembers_17 : decode cX6_addMembers 17 = .ok (.ishr, 1) := by decide +kernel
theorem dX6_addMembers_18 : decode cX6_addMembers 18 = .ok (.iconst 1, 1) := by decide +kernel
theorem dX6_addMembers_19 : decode cX6_addMembers 19 = .ok (.iand, 1) := by decide +kernel
theorem dX6_addMembers_20 : decode cX6_addMembers 20 = .ok (.iadd, 1) := by decide +kernel
theorem dX6_addMembers_21 : decode cX6_addMembers 21 = .ok (.iastore, 1) := by decide +kernel
theorem dX6_addMembers_22 : decode cX6_addMembers 22 = .ok (.iinc 2 1, 3) := by decide +kernel
theorem dX6_addMembers_25 : decode cX6_addMembers 25 = .ok (.goto (-23), 3) := by decide +kernel
theorem dX6_addMembers_28 : decode cX6_addMembers 28 = .ok (.return_, 1) := by decide +kernel
theorem dX6_largestCode_0 : decode cX6_largestCode 0 = .ok (.iconst 0, 1) := by decide +kernel
theorem dX6_largestCode_1 : decode cX6_largestCode 1 = .ok (.istore_n 3, 1) := by decide +kernel
theorem dX6_largestCode_2 : decode cX6_largestCode 2 = .ok (.iload_n 3, 1) := by decide +kernel
theorem dX6_largestCode_3 : decode cX6_largestCode 3 = .ok (.bipush 16, 2) := by decide +kernel
theorem dX6_largestCode_5 : decode cX6_largestCode 5 = .ok (.if_icmp .ge 56, 3) := by decide +kernel
theorem dX6_largestCode_8 : decode cX6_largestCode 8 = .ok (.aload_n 0, 1) := by decide +kernel
theorem dX6_largestCode_9 : decode cX6_largestCode 9 = .ok (.getfield 15, 3) := by decide +kernel
theorem dX6_largestCode_12 : decode cX6_largestCode 12 = .ok (.iload_n 3, 1) := by decide +kernel
theorem dX6_largestCode_13 : decode cX6_largestCode 13 = .ok (.iconst 0, 1) := by decide +kernel
theorem dX6_largestCode_14 : decode cX6_largestCode 14 = .ok (.iastore, 1) := by decide +kernel
theorem dX6_largestCode_15 : decode cX6_largestCode 15 = .ok (.iconst 0, 1) := by decide +kernel
theorem dX6_largestCode_16 : decode cX6_largestCode 16 = .ok (.istore 4, 2) := by decide +kernel
theorem dX6_largestCode_18 : decode cX6_largestCode 18 = .ok (.iload 4, 2) := by decide +kernel
theorem dX6_largestCode_20 : decode cX6_largestCode 20 = .ok (.bipush 16, 2) := by decide +kernel
theorem dX6_largestCode_22 : decode cX6_largestCode 22 = .ok (.if_icmp .ge 33, 3) := by decide +kernel
theorem dX6_largestCode_25 : decode cX6_largestCode 25 = .ok (.iload_n 3, 1) := by decide +kernel
theorem dX6_largestCode_26 : decode cX6_largestCode 26 = .ok (.iload 4, 2) := by decide +kernel
theorem dX6_largestCode_28 : decode cX6_largestCode 28 = .ok (.ixor, 1) := by decide +kernel
theorem dX6_largestCode_29 : decode cX6_largestCode 29 = .ok (.invokestatic 53, 3) := by decide +kernel
theorem dX6_largestCode_32 : decode cX6_largestCode 32 = .ok (.iload_n 2, 1) := by decide +kernel
theorem dX6_largestCode_33 : decode cX6_largestCode 33 = .ok (.if_icmp .ge 16, 3) := by decide +kernel
theorem dX6_largestCode_36 : decode cX6_largestCode 36 = .ok (.aload_n 0, 1) := by decide +kernel
theorem dX6_largestCode_37 : decode cX6_largestCode 37 = .ok (.getfield 15, 3) := by decide +kernel
theorem dX6_largestCode_40 : decode cX6_largestCode 40 = .ok (.iload_n 3, 1) := by decide +kernel
theorem dX6_largestCode_41 : decode cX6_largestCode 41 = .ok (.dup2, 1) := by decide +kernel
theorem dX6_largestCode_42 : decode cX6_largestCode 42 = .ok (.iaload, 1) := by decide +kernel
theorem dX6_largestCode_43 : decode cX6_largestCode 43 = .ok (.iconst 1, 1) := by decide +kernel
theorem dX6_largestCode_44 : decode cX6_largestCode 44 = .ok (.iload 4, 2) := by decide +kernel
theorem dX6_largestCode_46 : decode cX6_largestCode 46 = .ok (.ishl, 1) := by decide +kernel
theorem dX6_largestCode_47 : decode cX6_largestCode 47 = .ok (.ior, 1) := by decide +kernel
theorem dX6_largestCode_48 : decode cX6_largestCode 48 = .ok (.iastore, 1) := by decide +kernel
theorem dX6_largestCode_49 : decode cX6_largestCode 49 = .ok (.iinc 4 1, 3) := by decide +kernel
theorem dX6_largestCode_52 : decode cX6_largestCode 52 = .ok (.goto (-34), 3) := by decide +kernel
theorem dX6_largestCode_55 : decode cX6_largestCode 55 = .ok (.iinc 3 1, 3) := by decide +kernel
theorem dX6_largestCode_58 : decode cX6_largestCode 58 = .ok (.goto (-56), 3) := by decide +kernel
theorem dX6_largestCode_61 : decode cX6_largestCode 61 = .ok (.aload_n 0, 1) := by decide +kernel
theorem dX6_largestCode_62 : decode cX6_largestCode 62 = .ok (.getfield 15, 3) := by decide +kernel
theorem dX6_largestCode_65 : decode cX6_largestCode 65 = .ok (.iconst 0, 1) := by decide +kernel
theorem dX6_largestCode_66 : decode cX6_largestCode 66 = .ok (.iconst 1, 1) := by decide +kernel
theorem dX6_largestCode_67 : decode cX6_largestCode 67 = .ok (.iload_n 1, 1) := by decide +kernel
theorem dX6_largestCode_68 : decode cX6_largestCode 68 = .ok (.ishl, 1) := by decide +kernel
theorem dX6_largestCode_69 : decode cX6_largestCode 69 = .ok (.iconst 1, 1) := by decide +kernel
theorem dX6_largestCode_70 : decode cX6_largestCode 70 = .ok (.isub, 1) := by decide +kernel
theorem dX6_largestCode_71 : decode cX6_largestCode 71 = .ok (.iconst 0, 1) := by decide +kernel
theorem dX6_largestCode_72 : decode cX6_largestCode 72 = .ok (.iconst 0, 1) := by decide +kernel
theorem dX6_largestCode_73 : decode cX6_largestCode 73 = .ok (.invokestatic 59, 3) := by decide +kernel
theorem dX6_largestCode_76 : decode cX6_largestCode 76 = .ok (.ireturn, 1) := by decide +kernel
theorem dX6_largerCode_0 : decode cX6_largerCode 0 = .ok (.iload_n 1, 1) := by decide +kernel
theorem dX6_largerCode_1 : decode cX6_largerCode 1 = .ok (.invokestatic 53, 3) := by decide +kernel
theorem dX6_largerCode_4 : decode cX6_largerCode 4 = .ok (.iload_n 2, 1) := by decide +kernel
theorem dX6_largerCode_5 : decode cX6_largerCode 5 = .ok (.invokestatic 53, 3) := by decide +kernel
theorem dX6_largerCode_8 : decode cX6_largerCode 8 = .ok (.iadd, 1) := by decide +kernel
theorem dX6_largerCode_9 : decode cX6_largerCode 9 = .ok (.iload_n 3, 1) := by decide +kernel
theorem dX6_largerCode_10 : decode cX6_largerCode 10 = .ok (.invokestatic 53, 3) := by decide +kernel
theorem dX6_largerCode_13 : decode cX6_largerCode 13 = .ok (.if_icmp .gt 5, 3) := by decide +kernel
theorem dX6_largerCode_16 : decode cX6_largerCode 16 = .ok (.iload_n 3, 1) := by decide +kernel
theorem dX6_largerCode_17 : decode cX6_largerCode 17 = .ok (.ireturn, 1) := by decide +kernel
theorem dX6_largerCode_18 : decode cX6_largerCode 18 = .ok (.bipush 31, 2) := by decide +kernel
theorem dX6_largerCode_20 : decode cX6_largerCode 20 = .ok (.iload_n 2, 1) := by decide +kernel
theorem dX6_largerCode_21 : decode cX6_largerCode 21 = .ok (.invokestatic 63, 3) := by decide +kernel
theorem dX6_largerCode_24 : decode cX6_largerCode 24 = .ok (.isub, 1) := by decide +kernel
theorem dX6_largerCode_25 : decode cX6_largerCode 25 = .ok (.istore 5, 2) := by decide +kernel
theorem dX6_largerCode_27 : decode cX6_largerCode 27 = .ok (.iload 5, 2) := by decide +kernel
theorem dX6_largerCode_29 : decode cX6_largerCode 29 = .ok (.ifCond .lt 17, 3) := by decide +kernel
theorem dX6_largerCode_32 : decode cX6_largerCode 32 = .ok (.iload 5, 2) := by decide +kernel
theorem dX6_largerCode_34 : decode cX6_largerCode 34 = .ok (.aload_n 0, 1) := by decide +kernel
theorem dX6_largerCode_35 : decode cX6_largerCode 35 = .ok (.arraylength, 1) := by decide +kernel
theorem dX6_largerCode_36 : decode cX6_largerCode 36 = .ok (.if_icmp .ge 10, 3) := by decide +kernel
theorem dX6_largerCode_39 : decode cX6_largerCode 39 = .ok (.iload 4, 2) := by decide +kernel
theorem dX6_largerCode_41 : decode cX6_largerCode 41 = .ok (.bipush 16, 2) := by decide +kernel
theorem dX6_largerCode_43 : decode cX6_largerCode 43 = .ok (.if_icmp .le 5, 3) := by decide +kernel
theorem dX6_largerCode_46 : decode cX6_largerCode 46 = .ok (.iload_n 1, 1) := by decide +kernel
theorem dX6_largerCode_47 : decode cX6_largerCode 47 = .ok (.ireturn, 1) := by decide +kernel
theorem dX6_largerCode_48 : decode cX6_largerCode 48 = .ok (.iload_n 2, 1) := by decide +kernel
theorem dX6_largerCode_49 : decode cX6_largerCode 49 = .ok (.iconst 1, 1) := by decide +kernel
theorem dX6_largerCode_50 : decode cX6_largerCode 50 = .ok (.iload 5, 2) := by decide +kernel
theorem dX6_largerCode_52 : decode cX6_largerCode 52 = .ok (.ishl, 1) := by decide +kernel
theorem dX6_largerCode_53 : decode cX6_largerCode 53 = .ok (.iconst (-1), 1) := by decide +kernel
theorem dX6_largerCode_54 : decode cX6_largerCode 54 = .ok (.ixor, 1) := by decide +kernel
theorem dX6_largerCode_55 : decode cX6_largerCode 55 = .ok (.iand, 1) := by decide +kernel
theorem dX6_largerCode_56 : decode cX6_largerCode 56 = .ok (.istore 6, 2) := by decide +kernel
theorem dX6_largerCode_58 : decode cX6_largerCode 58 = .ok (.aload_n 0, 1) := by decide +kernel
theorem dX6_largerCode_59 : decode cX6_largerCode 59 = .ok (.iload_n 1, 1) := by decide +kernel
theorem dX6_largerCode_60 : decode cX6_largerCode 60 = .ok (.iload 6, 2) := by decide +kernel
theorem dX6_largerCode_62 : decode cX6_largerCode 62 = .ok (.iload_n 3, 1) := by decide +kernel
theorem dX6_largerCode_63 : decode cX6_largerCode 63 = .ok (.iload 4, 2) := by decide +kernel
theorem dX6_largerCode_65 : decode cX6_largerCode 65 = .ok (.iconst 1, 1) := by decide +kernel
theorem dX6_largerCode_66 : decode cX6_largerCode 66 = .ok (.iadd, 1) := by decide +kernel
theorem dX6_largerCode_67 : decode cX6_largerCode 67 = .ok (.invokestatic 59, 3) := by decide +kernel
theorem dX6_largerCode_70 : decode cX6_largerCode 70 = .ok (.istore 7, 2) := by decide +kernel
theorem dX6_largerCode_72 : decode cX6_largerCode 72 = .ok (.aload_n 0, 1) := by decide +kernel
theorem dX6_largerCode_73 : decode cX6_largerCode 73 = .ok (.iload_n 1, 1) := by decide +kernel
theorem dX6_largerCode_74 : decode cX6_largerCode 74 = .ok (.iconst 1, 1) := by decide +kernel
theorem dX6_largerCode_75 : decode cX6_largerCode 75 = .ok (.iload 5, 2) := by decide +kernel
theorem dX6_largerCode_77 : decode cX6_largerCode 77 = .ok (.ishl, 1) := by decide +kernel
theorem dX6_largerCode_78 : decode cX6_largerCode 78 = .ok (.ior, 1) := by decide +kernel
theorem dX6_largerCode_79 : decode cX6_largerCode 79 = .ok (.iload 6, 2) := by decide +kernel
theorem dX6_largerCode_81 : decode cX6_largerCode 81 = .ok (.aload_n 0, 1) := by decide +kernel
theorem dX6_largerCode_82 : decode cX6_largerCode 82 = .ok (.iload 5, 2) := by decide +kernel
theorem dX6_largerCode_84 : decode cX6_largerCode 84 = .ok (.iaload, 1) := by decide +kernel
theorem dX6_largerCode_85 : decode cX6_largerCode 85 = .ok (.iconst (-1), 1) := by decide +kernel
theorem dX6_largerCode_86 : decode cX6_largerCode 86 = .ok (.ixor, 1) := by decide +kernel
theorem dX6_largerCode_87 : decode cX6_largerCode 87 = .ok (.iand, 1) := by decide +kernel
theorem dX6_largerCode_88 : decode cX6_largerCode 88 = .ok (.iload 7, 2) := by decide +kernel
theorem dX6_largerCode_90 : decode cX6_largerCode 90 = .ok (.iload 4, 2) := by decide +kernel
theorem dX6_largerCode_92 : decode cX6_largerCode 92 = .ok (.iconst 1, 1) := by decide +kernel
theorem dX6_largerCode_93 : decode cX6_largerCode 93 = .ok (.iadd, 1) := by decide +kernel
theorem dX6_largerCode_94 : decode cX6_largerCode 94 = .ok (.invokestatic 59, 3) := by decide +kernel
theorem dX6_largerCode_97 : decode cX6_largerCode 97 = .ok (.ireturn, 1) := by decide +kernel
theorem dX6_shortestList_0 : decode cX6_shortestList 0 = .ok (.aload_n 0, 1) := by decide +kernel
theorem dX6_shortestList_1 : decode cX6_shortestList 1 = .ok (.aload_n 1, 1) := by decide +kernel
theorem dX6_shortestList_2 : decode cX6_shortestList 2 = .ok (.iload_n 2, 1) := by decide +kernel
theorem dX6_shortestList_3 : decode cX6_shortestList 3 = .ok (.iload_n 3, 1) := by decide +kernel
theorem dX6_shortestList_4 : decode cX6_shortestList 4 = .ok (.invokevirtual 66, 3) := by decide +kernel
theorem dX6_shortestList_7 : decode cX6_shortestList 7 = .ok (.istore 4, 2) := by decide +kernel
theorem dX6_shortestList_9 : decode cX6_shortestList 9 = .ok (.aload_n 0, 1) := by decide +kernel
theorem dX6_shortestList_10 : decode cX6_shortestList 10 = .ok (.getfield 18, 3) := by decide +kernel
theorem dX6_shortestList_13 : decode cX6_shortestList 13 = .ok (.iconst 0, 1) := by decide +kernel
theorem dX6_shortestList_14 : decode cX6_shortestList 14 = .ok (.iconst 0, 1) := by decide +kernel
theorem dX6_shortestList_15 : decode cX6_shortestList 15 = .ok (.iastore, 1) := by decide +kernel
theorem dX6_shortestList_16 : decode cX6_shortestList 16 = .ok (.iconst 1, 1) := by decide +kernel
theorem dX6_shortestList_17 : decode cX6_shortestList 17 = .ok (.istore 5, 2) := by decide +kernel
theorem dX6_shortestList_19 : decode cX6_shortestList 19 = .ok (.iload 5, 2) := by decide +kernel
theorem dX6_shortestList_21 : decode cX6_shortestList 21 = .ok (.iload_n 2, 1) := by decide +kernel
theorem dX6_shortestList_22 : decode cX6_shortestList 22 = .ok (.if_icmp .gt 115, 3) := by decide +kernel
theorem dX6_shortestList_25 : decode cX6_shortestList 25 = .ok (.aload_n 0, 1) := by decide +kernel
theorem dX6_shortestList_26 : decode cX6_shortestList 26 = .ok (.getfield 18, 3) := by decide +kernel
theorem dX6_shortestList_29 : decode cX6_shortestList 29 = .ok (.iload 5, 2) := by decide +kernel
theorem dX6_shortestList_31 : decode cX6_shortestList 31 = .ok (.iconst (-1), 1) := by decide +kernel
theorem dX6_shortestList_32 : decode cX6_shortestList 32 = .ok (.iastore, 1) := by decide +kernel
theorem dX6_shortestList_33 : decode cX6_shortestList 33 = .ok (.iload 5, 2) := by decide +kernel
theorem dX6_shortestList_35 : decode cX6_shortestList 35 = .ok (.iload 5, 2) := by decide +kernel
theorem dX6_shortestList_37 : decode cX6_shortestList 37 = .ok (.ineg, 1) := by decide +kernel
theorem dX6_shortestList_38 : decode cX6_shortestList 38 = .ok (.iand, 1) := by decide +kernel
theorem dX6_shortestList_39 : decode cX6_shortestList 39 = .ok (.istore 6, 2) := by decide +kernel
theorem dX6_shortestList_41 : decode cX6_shortestList 41 = .ok (.iconst 0, 1) := by decide +kernel
theorem dX6_shortestList_42 : decode cX6_shortestList 42 = .ok (.istore 7, 2) := by decide +kernel
theorem dX6_shortestList_44 : decode cX6_shortestList 44 = .ok (.iload 7, 2) := by decide +kernel
theorem dX6_shortestList_46 : decode cX6_shortestList 46 = .ok (.iload 4, 2) := by decide +kernel
theorem dX6_shortestList_48 : decode cX6_shortestList 48 = .ok (.if_icmp .ge 83, 3) := by decide +kernel
theorem dX6_shortestList_51 : decode cX6_shortestList 51 = .ok (.aload_n 0, 1) := by decide +kernel
theorem dX6_shortestList_52 : decode cX6_shortestList 52 = .ok (.getfield 18, 3) := by decide +kernel
theorem dX6_shortestList_55 : decode cX6_shortestList 55 = .ok (.iload 5, 2) := by decide +kernel
theorem dX6_shortestList_57 : decode cX6_shortestList 57 = .ok (.aload_n 0, 1) := by decide +kernel
theorem dX6_shortestList_58 : decode cX6_shortestList 58 = .ok (.getfield 21, 3) := by decide +kernel
theorem dX6_shortestList_61 : decode cX6_shortestList 61 = .ok (.iload 7, 2) := by decide +kernel
theorem dX6_shortestList_63 : decode cX6_shortestList 63 = .ok (.iaload, 1) := by decide +kernel
theorem dX6_shortestList_64 : decode cX6_shortestList 64 = .ok (.iconst (-1), 1) := by decide +kernel
theorem dX6_shortestList_65 : decode cX6_shortestList 65 = .ok (.ixor, 1) := by decide +kernel
theorem dX6_shortestList_66 : decode cX6_shortestList 66 = .ok (.iand, 1) := by decide +kernel
theorem dX6_shortestList_67 : decode cX6_shortestList 67 = .ok (.iaload, 1) := by decide +kernel
theorem dX6_shortestList_68 : decode cX6_shortestList 68 = .ok (.istore 8, 2) := by decide +kernel
theorem dX6_shortestList_70 : decode cX6_shortestList 70 = .ok (.aload_n 0, 1) := by decide +kernel
theorem dX6_shortestList_71 : decode cX6_shortestList 71 = .ok (.getfield 21, 3) := by decide +kernel
theorem dX6_shortestList_74 : decode cX6_shortestList 74 = .ok (.iload 7, 2) := by decide +kernel
theorem dX6_shortestList_76 : decode cX6_shortestList 76 = .ok (.iaload, 1) := by decide +kernel
theorem dX6_shortestList_77 : decode cX6_shortestList 77 = .ok (.iload 6, 2) := by decide +kernel
theorem dX6_shortestList_79 : decode cX6_shortestList 79 = .ok (.iand, 1) := by decide +kernel
theorem dX6_shortestList_80 : decode cX6_shortestList 80 = .ok (.ifCond .eq 45, 3) := by decide +kernel
theorem dX6_shortestList_83 : decode cX6_shortestList 83 = .ok (.iload 8, 2) := by decide +kernel
theorem dX6_shortestList_85 : decode cX6_shortestList 85 = .ok (.iconst (-1), 1) := by decide +kernel
theorem dX6_shortestList_86 : decode cX6_shortestList 86 = .ok (.if_icmp .eq 39, 3) := by decide +kernel
theorem dX6_shortestList_89 : decode cX6_shortestList 89 = .ok (.aload_n 0, 1) := by decide +kernel
theorem dX6_shortestList_90 : decode cX6_shortestList 90 = .ok (.getfield 18, 3) := by decide +kernel
theorem dX6_shortestList_93 : decode cX6_shortestList 93 = .ok (.iload 5, 2) := by decide +kernel
theorem dX6_shortestList_95 : decode cX6_shortestList 95 = .ok (.iaload, 1) := by decide +kernel
theorem dX6_shortestList_96 : decode cX6_shortestList 96 = .ok (.iconst (-1), 1) := by decide +kernel
theorem dX6_shortestList_97 : decode cX6_shortestList 97 = .ok (.if_icmp .eq 17, 3) := by decide +kernel
theorem dX6_shortestList_100 : decode cX6_shortestList 100 = .ok (.iload 8, 2) := by decide +kernel
theorem dX6_shortestList_102 : decode cX6_shortestList 102 = .ok (.iconst 1, 1) := by decide +kernel
theorem dX6_shortestList_103 : decode cX6_shortestList 103 = .ok (.iadd, 1) := by decide +kernel
theorem dX6_shortestList_104 : decode cX6_shortestList 104 = .ok (.aload_n 0, 1) := by decide +kernel
theorem dX6_shortestList_105 : decode cX6_shortestList 105 = .ok (.getfield 18, 3) := by decide +kernel
theorem dX6_shortestList_108 : decode cX6_shortestList 108 = .ok (.iload 5, 2) := by decide +kernel
theorem dX6_shortestList_110 : decode cX6_shortestList 110 = .ok (.iaload, 1) := by decide +kernel
theorem dX6_shortestList_111 : decode cX6_shortestList 111 = .ok (.if_icmp .ge 14, 3) := by decide +kernel
theorem dX6_shortestList_114 : decode cX6_shortestList 114 = .ok (.aload_n 0, 1) := by decide +kernel
theorem dX6_shortestList_115 : decode cX6_shortestList 115 = .ok (.getfield 18, 3) := by decide +kernel
theorem dX6_shortestList_118 : decode cX6_shortestList 118 = .ok (.iload 5, 2) := by decide +kernel
theorem dX6_shortestList_120 : decode cX6_shortestList 120 = .ok (.iload 8, 2) := by decide +kernel
theorem dX6_shortestList_122 : decode cX6_shortestList 122 = .ok (.iconst 1, 1) := by decide +kernel
theorem dX6_shortestList_123 : decode cX6_shortestList 123 = .ok (.iadd, 1) := by decide +kernel
theorem dX6_shortestList_124 : decode cX6_shortestList 124 = .ok (.iastore, 1) := by decide +kernel
theorem dX6_shortestList_125 : decode cX6_shortestList 125 = .ok (.iinc 7 1, 3) := by decide +kernel
theorem dX6_shortestList_128 : decode cX6_shortestList 128 = .ok (.goto (-84), 3) := by decide +kernel
theorem dX6_shortestList_131 : decode cX6_shortestList 131 = .ok (.iinc 5 1, 3) := by decide +kernel
theorem dX6_shortestList_134 : decode cX6_shortestList 134 = .ok (.goto (-115), 3) := by decide +kernel
theorem dX6_shortestList_137 : decode cX6_shortestList 137 = .ok (.aload_n 0, 1) := by decide +kernel
theorem dX6_shortestList_138 : decode cX6_shortestList 138 = .ok (.getfield 18, 3) := by decide +kernel
theorem dX6_shortestList_141 : decode cX6_shortestList 141 = .ok (.iload_n 2, 1) := by decide +kernel
theorem dX6_shortestList_142 : decode cX6_shortestList 142 = .ok (.iaload, 1) := by decide +kernel
theorem dX6_shortestList_143 : decode cX6_shortestList 143 = .ok (.ireturn, 1) := by decide +kernel
theorem dX6_findGroups_0 : decode cX6_findGroups 0 = .ok (.iconst 0, 1) := by decide +kernel
theorem dX6_findGroups_1 : decode cX6_findGroups 1 = .ok (.istore 4, 2) := by decide +kernel
theorem dX6_findGroups_3 : decode cX6_findGroups 3 = .ok (.iconst 0, 1) := by decide +kernel
theorem dX6_findGroups_4 : decode cX6_findGroups 4 = .ok (.istore 5, 2) := by decide +kernel
theorem dX6_findGroups_6 : decode cX6_findGroups 6 = .ok (.iload 5, 2) := by decide +kernel
theorem dX6_findGroups_8 : decode cX6_findGroups 8 = .ok (.sipush 256, 3) := by decide +kernel
theorem dX6_findGroups_11 : decode cX6_findGroups 11 = .ok (.if_icmp .ge 93, 3) := by decide +kernel
theorem dX6_findGroups_14 : decode cX6_findGroups 14 = .ok (.iconst 0, 1) := by decide +kernel
theorem dX6_findGroups_15 : decode cX6_findGroups 15 = .ok (.istore 6, 2) := by decide +kernel
theorem dX6_findGroups_17 : decode cX6_findGroups 17 = .ok (.iconst 0, 1) := by decide +kernel
theorem dX6_findGroups_18 : decode cX6_findGroups 18 = .ok (.istore 7, 2) := by decide +kernel
theorem dX6_findGroups_20 : decode cX6_findGroups 20 = .ok (.iload 7, 2) := by decide +kernel
theorem dX6_findGroups_22 : decode cX6_findGroups 22 = .ok (.aload_n 1, 1) := by decide +kernel
theorem dX6_findGroups_23 : decode cX6_findGroups 23 = .ok (.getfield 37, 3) := by decide +kernel
theorem dX6_findGroups_26 : decode cX6_findGroups 26 = .ok (.if_icmp .ge 35, 3) := by decide +kernel
theorem dX6_findGroups_29 : decode cX6_findGroups 29 = .ok (.iload 5, 2) := by decide +kernel
theorem dX6_findGroups_31 : decode cX6_findGroups 31 = .ok (.aload_n 1, 1) := by decide +kernel
theorem dX6_findGroups_32 : decode cX6_findGroups 32 = .ok (.getfield 50, 3) := by decide +kernel
theorem dX6_findGroups_35 : decode cX6_findGroups 35 = .ok (.iload 7, 2) := by decide +kernel
theorem dX6_findGroups_37 : decode cX6_findGroups 37 = .ok (.iaload, 1) := by decide +kernel
theorem dX6_findGroups_38 : decode cX6_findGroups 38 = .ok (.ixor, 1) := by decide +kernel
theorem dX6_findGroups_39 : decode cX6_findGroups 39 = .ok (.invokestatic 53, 3) := by decide +kernel
theorem dX6_findGroups_42 : decode cX6_findGroups 42 = .ok (.iload_n 3, 1) := by decide +kernel
theorem dX6_findGroups_43 : decode cX6_findGroups 43 = .ok (.if_icmp .gt 12, 3) := by decide +kernel
theorem dX6_findGroups_46 : decode cX6_findGroups 46 = .ok (.iload 6, 2) := by decide +kernel
theorem dX6_findGroups_48 : decode cX6_findGroups 48 = .ok (.iconst 1, 1) := by decide +kernel
theorem dX6_findGroups_49 : decode cX6_findGroups 49 = .ok (.iload 7, 2) := by decide +kernel
theorem dX6_findGroups_51 : decode cX6_findGroups 51 = .ok (.ishl, 1) := by decide +kernel
theorem dX6_findGroups_52 : decode cX6_findGroups 52 = .ok (.ior, 1) := by decide +kernel
theorem dX6_findGroups_53 : decode cX6_findGroups 53 = .ok (.istore 6, 2) := by decide +kernel
theorem dX6_findGroups_55 : decode cX6_findGroups 55 = .ok (.iinc 7 1, 3) := by decide +kernel
theorem dX6_findGroups_58 : decode cX6_findGroups 58 = .ok (.goto (-38), 3) := by decide +kernel
theorem dX6_findGroups_61 : decode cX6_findGroups 61 = .ok (.iload 6, 2) := by decide +kernel
theorem dX6_findGroups_63 : decode cX6_findGroups 63 = .ok (.ifCond .eq 35, 3) := by decide +kernel
theorem dX6_findGroups_66 : decode cX6_findGroups 66 = .ok (.iload 6, 2) := by decide +kernel
theorem dX6_findGroups_68 : decode cX6_findGroups 68 = .ok (.iload_n 2, 1) := by decide +kernel
theorem dX6_findGroups_69 : decode cX6_findGroups 69 = .ok (.iconst (-1), 1) := by decide +kernel
theorem dX6_findGroups_70 : decode cX6_findGroups 70 = .ok (.ixor, 1) := by decide +kernel
theorem dX6_findGroups_71 : decode cX6_findGroups 71 = .ok (.iand, 1) := by decide +kernel
theorem dX6_findGroups_72 : decode cX6_findGroups 72 = .ok (.ifCond .ne 26, 3) := by decide +kernel
theorem dX6_findGroups_75 : decode cX6_findGroups 75 = .ok (.aload_n 0, 1) := by decide +kernel
theorem dX6_findGroups_76 : decode cX6_findGroups 76 = .ok (.iload 6, 2) := by decide +kernel
theorem dX6_findGroups_78 : decode cX6_findGroups 78 = .ok (.iload 4, 2) := by decide +kernel
theorem dX6_findGroups_80 : decode cX6_findGroups 80 = .ok (.invokevirtual 70, 3) := by decide +kernel
theorem dX6_findGroups_83 : decode cX6_findGroups 83 = .ok (.ifCond .ne 15, 3) := by decide +kernel
theorem dX6_findGroups_86 : decode cX6_findGroups 86 = .ok (.aload_n 0, 1) := by decide +kernel
theorem dX6_findGroups_87 : decode cX6_findGroups 87 = .ok (.getfield 21, 3) := by decide +kernel
theorem dX6_findGroups_90 : decode cX6_findGroups 90 = .ok (.iload 4, 2) := by decide +kernel
theorem dX6_findGroups_92 : decode cX6_findGroups 92 = .ok (.iload 6, 2) := by decide +kernel
theorem dX6_findGroups_94 : decode cX6_findGroups 94 = .ok (.iastore, 1) := by decide +kernel
theorem dX6_findGroups_95 : decode cX6_findGroups 95 = .ok (.iinc 4 1, 3) := by decide +kernel
theorem dX6_findGroups_98 : decode cX6_findGroups 98 = .ok (.iinc 5 1, 3) := by decide +kernel
theorem dX6_findGroups_101 : decode cX6_findGroups 101 = .ok (.goto (-95), 3) := by decide +kernel
theorem dX6_findGroups_104 : decode cX6_findGroups 104 = .ok (.iload 4, 2) := by decide +kernel
theorem dX6_findGroups_106 : decode cX6_findGroups 106 = .ok (.ireturn, 1) := by decide +kernel
theorem dX6_isGroup_0 : decode cX6_isGroup 0 = .ok (.iconst 0, 1) := by decide +kernel
theorem dX6_isGroup_1 : decode cX6_isGroup 1 = .ok (.istore_n 3, 1) := by decide +kernel
theorem dX6_isGroup_2 : decode cX6_isGroup 2 = .ok (.iload_n 3, 1) := by decide +kernel
theorem dX6_isGroup_3 : decode cX6_isGroup 3 = .ok (.iload_n 2, 1) := by decide +kernel
theorem dX6_isGroup_4 : decode cX6_isGroup 4 = .ok (.if_icmp .ge 21, 3) := by decide +kernel
theorem dX6_isGroup_7 : decode cX6_isGroup 7 = .ok (.aload_n 0, 1) := by decide +kernel
theorem dX6_isGroup_8 : decode cX6_isGroup 8 = .ok (.getfield 21, 3) := by decide +kernel
theorem dX6_isGroup_11 : decode cX6_isGroup 11 = .ok (.iload_n 3, 1) := by decide +kernel
theorem dX6_isGroup_12 : decode cX6_isGroup 12 = .ok (.iaload, 1) := by decide +kernel
theorem dX6_isGroup_13 : decode cX6_isGroup 13 = .ok (.iload_n 1, 1) := by decide +kernel
theorem dX6_isGroup_14 : decode cX6_isGroup 14 = .ok (.if_icmp .ne 5, 3) := by decide +kernel
theorem dX6_isGroup_17 : decode cX6_isGroup 17 = .ok (.iconst 1, 1) := by decide +kernel
theorem dX6_isGroup_18 : decode cX6_isGroup 18 = .ok (.ireturn, 1) := by decide +kernel
theorem dX6_isGroup_19 : decode cX6_isGroup 19 = .ok (.iinc 3 1, 3) := by decide +kernel
theorem dX6_isGroup_22 : decode cX6_isGroup 22 = .ok (.goto (-20), 3) := by decide +kernel
theorem dX6_isGroup_25 : decode cX6_isGroup 25 = .ok (.iconst 0, 1) := by decide +kernel
theorem dX6_isGroup_26 : decode cX6_isGroup 26 = .ok (.ireturn, 1) := by decide +kernel
theorem dX6_leastFees_0 : decode cX6_leastFees 0 = .ok (.iload 4, 2) := by decide +kernel
theorem dX6_leastFees_2 : decode cX6_leastFees 2 = .ok (.invokestatic 53, 3) := by decide +kernel
theorem dX6_leastFees_5 : decode cX6_leastFees 5 = .ok (.istore 5, 2) := by decide +kernel
theorem dX6_leastFees_7 : decode cX6_leastFees 7 = .ok (.iconst 0, 1) := by decide +kernel
theorem dX6_leastFees_8 : decode cX6_leastFees 8 = .ok (.istore 6, 2) := by decide +kernel
theorem dX6_leastFees_10 : decode cX6_leastFees 10 = .ok (.iload 6, 2) := by decide +kernel
theorem dX6_leastFees_12 : decode cX6_leastFees 12 = .ok (.aload_n 2, 1) := by decide +kernel
theorem dX6_leastFees_13 : decode cX6_leastFees 13 = .ok (.getfield 37, 3) := by decide +kernel
theorem dX6_leastFees_16 : decode cX6_leastFees 16 = .ok (.if_icmp .ge 55, 3) := by decide +kernel
theorem dX6_leastFees_19 : decode cX6_leastFees 19 = .ok (.iconst 0, 1) := by decide +kernel
theorem dX6_leastFees_20 : decode cX6_leastFees 20 = .ok (.istore 7, 2) := by decide +kernel
theorem dX6_leastFees_22 : decode cX6_leastFees 22 = .ok (.iload 7, 2) := by decide +kernel
theorem dX6_leastFees_24 : decode cX6_leastFees 24 = .ok (.iload 5, 2) := by decide +kernel
theorem dX6_leastFees_26 : decode cX6_leastFees 26 = .ok (.if_icmp .ge 39, 3) := by decide +kernel
theorem dX6_leastFees_29 : decode cX6_leastFees 29 = .ok (.aload_n 0, 1) := by decide +kernel
theorem dX6_leastFees_30 : decode cX6_leastFees 30 = .ok (.getfield 24, 3) := by decide +kernel
theorem dX6_leastFees_33 : decode cX6_leastFees 33 = .ok (.iload 6, 2) := by decide +kernel
theorem dX6_leastFees_35 : decode cX6_leastFees 35 = .ok (.bipush 8, 2) := by decide +kernel
theorem dX6_leastFees_37 : decode cX6_leastFees 37 = .ok (.imul, 1) := by decide +kernel
theorem dX6_leastFees_38 : decode cX6_leastFees 38 = .ok (.iload 7, 2) := by decide +kernel
theorem dX6_leastFees_40 : decode cX6_leastFees 40 = .ok (.iadd, 1) := by decide +kernel
theorem dX6_leastFees_41 : decode cX6_leastFees 41 = .ok (.aload_n 1, 1) := by decide +kernel
theorem dX6_leastFees_42 : decode cX6_leastFees 42 = .ok (.aload_n 2, 1) := by decide +kernel
theorem dX6_leastFees_43 : decode cX6_leastFees 43 = .ok (.iload 6, 2) := by decide +kernel
theorem dX6_leastFees_45 : decode cX6_leastFees 45 = .ok (.iload_n 3, 1) := by decide +kernel
theorem dX6_leastFees_46 : decode cX6_leastFees 46 = .ok (.aload_n 2, 1) := by decide +kernel
theorem dX6_leastFees_47 : decode cX6_leastFees 47 = .ok (.getfield 74, 3) := by decide +kernel
theorem dX6_leastFees_50 : decode cX6_leastFees 50 = .ok (.iload_n 3, 1) := by decide +kernel
theorem dX6_leastFees_51 : decode cX6_leastFees 51 = .ok (.iaload, 1) := by decide +kernel
theorem dX6_leastFees_52 : decode cX6_leastFees 52 = .ok (.iload 7, 2) := by decide +kernel
theorem dX6_leastFees_54 : decode cX6_leastFees 54 = .ok (.iadd, 1) := by decide +kernel
theorem dX6_leastFees_55 : decode cX6_leastFees 55 = .ok (.invokevirtual 77, 3) := by decide +kernel
theorem dX6_leastFees_58 : decode cX6_leastFees 58 = .ok (.iastore, 1) := by decide +kernel
theorem dX6_leastFees_59 : decode cX6_leastFees 59 = .ok (.iinc 7 1, 3) := by decide +kernel
theorem dX6_leastFees_62 : decode cX6_leastFees 62 = .ok (.goto (-40), 3) := by decide +kernel
theorem dX6_leastFees_65 : decode cX6_leastFees 65 = .ok (.iinc 6 1, 3) := by decide +kernel
theorem dX6_leastFees_68 : decode cX6_leastFees 68 = .ok (.goto (-58), 3) := by decide +kernel
theorem dX6_leastFees_71 : decode cX6_leastFees 71 = .ok (.aload_n 0, 1) := by decide +kernel
theorem dX6_leastFees_72 : decode cX6_leastFees 72 = .ok (.getfield 18, 3) := by decide +kernel
theorem dX6_leastFees_75 : decode cX6_leastFees 75 = .ok (.iconst 0, 1) := by decide +kernel
theorem dX6_leastFees_76 : decode cX6_leastFees 76 = .ok (.iconst 0, 1) := by decide +kernel
theorem dX6_leastFees_77 : decode cX6_leastFees 77 = .ok (.iastore, 1) := by decide +kernel
theorem dX6_leastFees_78 : decode cX6_leastFees 78 = .ok (.iconst 1, 1) := by decide +kernel
theorem dX6_leastFees_79 : decode cX6_leastFees 79 = .ok (.istore 6, 2) := by decide +kernel
theorem dX6_leastFees_81 : decode cX6_leastFees 81 = .ok (.iload 6, 2) := by decide +kernel
theorem dX6_leastFees_83 : decode cX6_leastFees 83 = .ok (.iload 4, 2) := by decide +kernel
theorem dX6_leastFees_85 : decode cX6_leastFees 85 = .ok (.if_icmp .gt 42, 3) := by decide +kernel
theorem dX6_leastFees_88 : decode cX6_leastFees 88 = .ok (.iload 6, 2) := by decide +kernel
theorem dX6_leastFees_90 : decode cX6_leastFees 90 = .ok (.iload 4, 2) := by decide +kernel
theorem dX6_leastFees_92 : decode cX6_leastFees 92 = .ok (.iconst (-1), 1) := by decide +kernel
theorem dX6_leastFees_93 : decode cX6_leastFees 93 = .ok (.ixor, 1) := by decide +kernel
theorem dX6_leastFees_94 : decode cX6_leastFees 94 = .ok (.iand, 1) := by decide +kernel
theorem dX6_leastFees_95 : decode cX6_leastFees 95 = .ok (.ifCond .ne 26, 3) := by decide +kernel
theorem dX6_leastFees_98 : decode cX6_leastFees 98 = .ok (.aload_n 0, 1) := by decide +kernel
theorem dX6_leastFees_99 : decode cX6_leastFees 99 = .ok (.getfield 18, 3) := by decide +kernel
theorem dX6_leastFees_102 : decode cX6_leastFees 102 = .ok (.iload 6, 2) := by decide +kernel
theorem dX6_leastFees_104 : decode cX6_leastFees 104 = .ok (.aload_n 0, 1) := by decide +kernel
theorem dX6_leastFees_105 : decode cX6_leastFees 105 = .ok (.iload 6, 2) := by decide +kernel
theorem dX6_leastFees_107 : decode cX6_leastFees 107 = .ok (.aload_n 0, 1) := by decide +kernel
theorem dX6_leastFees_108 : decode cX6_leastFees 108 = .ok (.iload 6, 2) := by decide +kernel
theorem dX6_leastFees_110 : decode cX6_leastFees 110 = .ok (.iload 5, 2) := by decide +kernel
theorem dX6_leastFees_112 : decode cX6_leastFees 112 = .ok (.invokevirtual 83, 3) := by decide +kernel
theorem dX6_leastFees_115 : decode cX6_leastFees 115 = .ok (.iload 5, 2) := by decide +kernel
theorem dX6_leastFees_117 : decode cX6_leastFees 117 = .ok (.invokevirtual 87, 3) := by decide +kernel
theorem dX6_leastFees_120 : decode cX6_leastFees 120 = .ok (.iastore, 1) := by decide +kernel
theorem dX6_leastFees_121 : decode cX6_leastFees 121 = .ok (.iinc 6 1, 3) := by decide +kernel
theorem dX6_leastFees_124 : decode cX6_leastFees 124 = .ok (.goto (-43), 3) := by decide +kernel
theorem dX6_leastFees_127 : decode cX6_leastFees 127 = .ok (.aload_n 0, 1) := by decide +kernel
theorem dX6_leastFees_128 : decode cX6_leastFees 128 = .ok (.getfield 18, 3) := by decide +kernel
theorem dX6_leastFees_131 : decode cX6_leastFees 131 = .ok (.iload 4, 2) := by decide +kernel
theorem dX6_leastFees_133 : decode cX6_leastFees 133 = .ok (.iaload, 1) := by decide +kernel
theorem dX6_leastFees_134 : decode cX6_leastFees 134 = .ok (.ireturn, 1) := by decide +kernel
theorem dX6_feesWhenNext_0 : decode cX6_feesWhenNext 0 = .ok (.aload_n 0, 1) := by decide +kernel
theorem dX6_feesWhenNext_1 : decode cX6_feesWhenNext 1 = .ok (.getfield 24, 3) := by decide +kernel
theorem dX6_feesWhenNext_4 : decode cX6_feesWhenNext 4 = .ok (.iload_n 2, 1) := by decide +kernel
theorem dX6_feesWhenNext_5 : decode cX6_feesWhenNext 5 = .ok (.bipush 8, 2) := by decide +kernel
theorem dX6_feesWhenNext_7 : decode cX6_feesWhenNext 7 = .ok (.imul, 1) := by decide +kernel
theorem dX6_feesWhenNext_8 : decode cX6_feesWhenNext 8 = .ok (.iload_n 3, 1) := by decide +kernel
theorem dX6_feesWhenNext_9 : decode cX6_feesWhenNext 9 = .ok (.iadd, 1) := by decide +kernel
theorem dX6_feesWhenNext_10 : decode cX6_feesWhenNext 10 = .ok (.iload_n 1, 1) := by decide +kernel
theorem dX6_feesWhenNext_11 : decode cX6_feesWhenNext 11 = .ok (.invokestatic 53, 3) := by decide +kernel
theorem dX6_feesWhenNext_14 : decode cX6_feesWhenNext 14 = .ok (.isub, 1) := by decide +kernel
theorem dX6_feesWhenNext_15 : decode cX6_feesWhenNext 15 = .ok (.iaload, 1) := by decide +kernel
theorem dX6_feesWhenNext_16 : decode cX6_feesWhenNext 16 = .ok (.aload_n 0, 1) := by decide +kernel
theorem dX6_feesWhenNext_17 : decode cX6_feesWhenNext 17 = .ok (.getfield 18, 3) := by decide +kernel
theorem dX6_feesWhenNext_20 : decode cX6_feesWhenNext 20 = .ok (.iload_n 1, 1) := by decide +kernel
theorem dX6_feesWhenNext_21 : decode cX6_feesWhenNext 21 = .ok (.iconst 1, 1) := by decide +kernel
theorem dX6_feesWhenNext_22 : decode cX6_feesWhenNext 22 = .ok (.iload_n 2, 1) := by decide +kernel
theorem dX6_feesWhenNext_23 : decode cX6_feesWhenNext 23 = .ok (.ishl, 1) := by decide +kernel
theorem dX6_feesWhenNext_24 : decode cX6_feesWhenNext 24 = .ok (.iconst (-1), 1) := by decide +kernel
theorem dX6_feesWhenNext_25 : decode cX6_feesWhenNext 25 = .ok (.ixor, 1) := by decide +kernel
theorem dX6_feesWhenNext_26 : decode cX6_feesWhenNext 26 = .ok (.iand, 1) := by decide +kernel
theorem dX6_feesWhenNext_27 : decode cX6_feesWhenNext 27 = .ok (.iaload, 1) := by decide +kernel
theorem dX6_feesWhenNext_28 : decode cX6_feesWhenNext 28 = .ok (.iadd, 1) := by decide +kernel
theorem dX6_feesWhenNext_29 : decode cX6_feesWhenNext 29 = .ok (.ireturn, 1) := by decide +kernel
theorem dX6_nextInFile_0 : decode cX6_nextInFile 0 = .ok (.iconst 0, 1) := by decide +kernel
theorem dX6_nextInFile_1 : decode cX6_nextInFile 1 = .ok (.istore_n 3, 1) := by decide +kernel
theorem dX6_nextInFile_2 : decode cX6_nextInFile 2 = .ok (.iconst (-1), 1) := by decide +kernel
theorem dX6_nextInFile_3 : decode cX6_nextInFile 3 = .ok (.istore 4, 2) := by decide +kernel
theorem dX6_nextInFile_5 : decode cX6_nextInFile 5 = .ok (.iconst 0, 1) := by decide +kernel
theorem dX6_nextInFile_6 : decode cX6_nextInFile 6 = .ok (.istore 5, 2) := by decide +kernel
theorem dX6_nextInFile_8 : decode cX6_nextInFile 8 = .ok (.iload 5, 2) := by decide +kernel
theorem dX6_nextInFile_10 : decode cX6_nextInFile 10 = .ok (.bipush 8, 2) := by decide +kernel
theorem dX6_nextInFile_12 : decode cX6_nextInFile 12 = .ok (.if_icmp .ge 49, 3) := by decide +kernel
theorem dX6_nextInFile_15 : decode cX6_nextInFile 15 = .ok (.iload_n 1, 1) := by decide +kernel
theorem dX6_nextInFile_16 : decode cX6_nextInFile 16 = .ok (.iload 5, 2) := by decide +kernel
theorem dX6_nextInFile_18 : decode cX6_nextInFile 18 = .ok (.ishr, 1) := by decide +kernel
theorem dX6_nextInFile_19 : decode cX6_nextInFile 19 = .ok (.iconst 1, 1) := by decide +kernel
theorem dX6_nextInFile_20 : decode cX6_nextInFile 20 = .ok (.iand, 1) := by decide +kernel
theorem dX6_nextInFile_21 : decode cX6_nextInFile 21 = .ok (.iconst 1, 1) := by decide +kernel
theorem dX6_nextInFile_22 : decode cX6_nextInFile 22 = .ok (.if_icmp .ne 33, 3) := by decide +kernel
theorem dX6_nextInFile_25 : decode cX6_nextInFile 25 = .ok (.aload_n 0, 1) := by decide +kernel
theorem dX6_nextInFile_26 : decode cX6_nextInFile 26 = .ok (.iload_n 1, 1) := by decide +kernel
theorem dX6_nextInFile_27 : decode cX6_nextInFile 27 = .ok (.iload 5, 2) := by decide +kernel
theorem dX6_nextInFile_29 : decode cX6_nextInFile 29 = .ok (.iload_n 2, 1) := by decide +kernel
theorem dX6_nextInFile_30 : decode cX6_nextInFile 30 = .ok (.invokevirtual 87, 3) := by decide +kernel
theorem dX6_nextInFile_33 : decode cX6_nextInFile 33 = .ok (.istore 6, 2) := by decide +kernel
theorem dX6_nextInFile_35 : decode cX6_nextInFile 35 = .ok (.iload 4, 2) := by decide +kernel
theorem dX6_nextInFile_37 : decode cX6_nextInFile 37 = .ok (.iconst (-1), 1) := by decide +kernel
theorem dX6_nextInFile_38 : decode cX6_nextInFile 38 = .ok (.if_icmp .eq 10, 3) := by decide +kernel
theorem dX6_nextInFile_41 : decode cX6_nextInFile 41 = .ok (.iload 6, 2) := by decide +kernel
theorem dX6_nextInFile_43 : decode cX6_nextInFile 43 = .ok (.iload 4, 2) := by decide +kernel
theorem dX6_nextInFile_45 : decode cX6_nextInFile 45 = .ok (.if_icmp .ge 10, 3) := by decide +kernel
theorem dX6_nextInFile_48 : decode cX6_nextInFile 48 = .ok (.iload 5, 2) := by decide +kernel
theorem dX6_nextInFile_50 : decode cX6_nextInFile 50 = .ok (.istore_n 3, 1) := by decide +kernel
theorem dX6_nextInFile_51 : decode cX6_nextInFile 51 = .ok (.iload 6, 2) := by decide +kernel
theorem dX6_nextInFile_53 : decode cX6_nextInFile 53 = .ok (.istore 4, 2) := by decide +kernel
theorem dX6_nextInFile_55 : decode cX6_nextInFile 55 = .ok (.iinc 5 1, 3) := by decide +kernel
theorem dX6_nextInFile_58 : decode cX6_nextInFile 58 = .ok (.goto (-50), 3) := by decide +kernel
theorem dX6_nextInFile_61 : decode cX6_nextInFile 61 = .ok (.iload_n 3, 1) := by decide +kernel
theorem dX6_nextInFile_62 : decode cX6_nextInFile 62 = .ok (.ireturn, 1) := by decide +kernel
theorem dX6_beastInFile_0 : decode cX6_beastInFile 0 = .ok (.iload_n 1, 1) := by decide +kernel
theorem dX6_beastInFile_1 : decode cX6_beastInFile 1 = .ok (.invokestatic 53, 3) := by decide +kernel
theorem dX6_beastInFile_4 : decode cX6_beastInFile 4 = .ok (.istore_n 3, 1) := by decide +kernel
theorem dX6_beastInFile_5 : decode cX6_beastInFile 5 = .ok (.iload_n 1, 1) := by decide +kernel
theorem dX6_beastInFile_6 : decode cX6_beastInFile 6 = .ok (.istore 4, 2) := by decide +kernel
theorem dX6_beastInFile_8 : decode cX6_beastInFile 8 = .ok (.iconst 0, 1) := by decide +kernel
theorem dX6_beastInFile_9 : decode cX6_beastInFile 9 = .ok (.istore 5, 2) := by decide +kernel
theorem dX6_beastInFile_11 : decode cX6_beastInFile 11 = .ok (.iload 5, 2) := by decide +kernel
theorem dX6_beastInFile_13 : decode cX6_beastInFile 13 = .ok (.iload_n 2, 1) := by decide +kernel
theorem dX6_beastInFile_14 : decode cX6_beastInFile 14 = .ok (.if_icmp .ge 30, 3) := by decide +kernel
theorem dX6_beastInFile_17 : decode cX6_beastInFile 17 = .ok (.iload 4, 2) := by decide +kernel
theorem dX6_beastInFile_19 : decode cX6_beastInFile 19 = .ok (.ifCond .eq 25, 3) := by decide +kernel
theorem dX6_beastInFile_22 : decode cX6_beastInFile 22 = .ok (.iload 4, 2) := by decide +kernel
theorem dX6_beastInFile_24 : decode cX6_beastInFile 24 = .ok (.iconst 1, 1) := by decide +kernel
theorem dX6_beastInFile_25 : decode cX6_beastInFile 25 = .ok (.aload_n 0, 1) := by decide +kernel
theorem dX6_beastInFile_26 : decode cX6_beastInFile 26 = .ok (.iload 4, 2) := by decide +kernel
theorem dX6_beastInFile_28 : decode cX6_beastInFile 28 = .ok (.iload_n 3, 1) := by decide +kernel
theorem dX6_beastInFile_29 : decode cX6_beastInFile 29 = .ok (.invokevirtual 83, 3) := by decide +kernel
theorem dX6_beastInFile_32 : decode cX6_beastInFile 32 = .ok (.ishl, 1) := by decide +kernel
theorem dX6_beastInFile_33 : decode cX6_beastInFile 33 = .ok (.iconst (-1), 1) := by decide +kernel
theorem dX6_beastInFile_34 : decode cX6_beastInFile 34 = .ok (.ixor, 1) := by decide +kernel
theorem dX6_beastInFile_35 : decode cX6_beastInFile 35 = .ok (.iand, 1) := by decide +kernel
theorem dX6_beastInFile_36 : decode cX6_beastInFile 36 = .ok (.istore 4, 2) := by decide +kernel
theorem dX6_beastInFile_38 : decode cX6_beastInFile 38 = .ok (.iinc 5 1, 3) := by decide +kernel
theorem dX6_beastInFile_41 : decode cX6_beastInFile 41 = .ok (.goto (-30), 3) := by decide +kernel
theorem dX6_beastInFile_44 : decode cX6_beastInFile 44 = .ok (.aload_n 0, 1) := by decide +kernel
theorem dX6_beastInFile_45 : decode cX6_beastInFile 45 = .ok (.iload 4, 2) := by decide +kernel
theorem dX6_beastInFile_47 : decode cX6_beastInFile 47 = .ok (.iload_n 3, 1) := by decide +kernel
theorem dX6_beastInFile_48 : decode cX6_beastInFile 48 = .ok (.invokevirtual 83, 3) := by decide +kernel
theorem dX6_beastInFile_51 : decode cX6_beastInFile 51 = .ok (.ireturn, 1) := by decide +kernel
theorem dX7_init_0 : decode cX7_init 0 = .ok (.aload_n 0, 1) := by decide +kernel
theorem dX7_init_1 : decode cX7_init 1 = .ok (.invokespecial 5, 3) := by decide +kernel
theorem dX7_init_4 : decode cX7_init 4 = .ok (.aload_n 0, 1) := by decide +kernel
theorem dX7_init_5 : decode cX7_init 5 = .ok (.bipush 8, 2) := by decide +kernel
theorem dX7_init_7 : decode cX7_init 7 = .ok (.newarray .int, 2) := by decide +kernel
theorem dX7_init_9 : decode cX7_init 9 = .ok (.putfield 11, 3) := by decide +kernel
theorem dX7_init_12 : decode cX7_init 12 = .ok (.aload_n 0, 1) := by decide +kernel
theorem dX7_init_13 : decode cX7_init 13 = .ok (.bipush 8, 2) := by decide +kernel
theorem dX7_init_15 : decode cX7_init 15 = .ok (.newarray .int, 2) := by decide +kernel
theorem dX7_init_17 : decode cX7_init 17 = .ok (.putfield 15, 3) := by decide +kernel
theorem dX7_init_20 : decode cX7_init 20 = .ok (.aload_n 0, 1) := by decide +kernel
theorem dX7_init_21 : decode cX7_init 21 = .ok (.bipush 8, 2) := by decide +kernel
theorem dX7_init_23 : decode cX7_init 23 = .ok (.newarray .int, 2) := by decide +kernel
theorem dX7_init_25 : decode cX7_init 25 = .ok (.putfield 18, 3) := by decide +kernel
theorem dX7_init_28 : decode cX7_init 28 = .ok (.aload_n 0, 1) := by decide +kernel
theorem dX7_init_29 : decode cX7_init 29 = .ok (.bipush 8, 2) := by decide +kernel
theorem dX7_init_31 : decode cX7_init 31 = .ok (.newarray .int, 2) := by decide +kernel
theorem dX7_init_33 : decode cX7_init 33 = .ok (.putfield 21, 3) := by decide +kernel
theorem dX7_init_36 : decode cX7_init 36 = .ok (.aload_n 0, 1) := by decide +kernel
theorem dX7_init_37 : decode cX7_init 37 = .ok (.iconst 5, 1) := by decide +kernel
theorem dX7_init_38 : decode cX7_init 38 = .ok (.newarray .int, 2) := by decide +kernel
theorem dX7_init_40 : decode cX7_init 40 = .ok (.putfield 24, 3) := by decide +kernel
theorem dX7_init_43 : decode cX7_init 43 = .ok (.aload_n 0, 1) := by decide +kernel
theorem dX7_init_44 : decode cX7_init 44 = .ok (.iconst 5, 1) := by decide +kernel
theorem dX7_init_45 : decode cX7_init 45 = .ok (.newarray .int, 2) := by decide +kernel
theorem dX7_init_47 : decode cX7_init 47 = .ok (.putfield 27, 3) := by decide +kernel
theorem dX7_init_50 : decode cX7_init 50 = .ok (.aload_n 0, 1) := by decide +kernel
theorem dX7_init_51 : decode cX7_init 51 = .ok (.bipush 100, 2) := by decide +kernel
theorem dX7_init_53 : decode cX7_init 53 = .ok (.putfield 30, 3) := by decide +kernel
theorem dX7_init_56 : decode cX7_init 56 = .ok (.return_, 1) := by decide +kernel
theorem dX7_clear_0 : decode cX7_clear 0 = .ok (.aload_n 0, 1) := by decide +kernel
theorem dX7_clear_1 : decode cX7_clear 1 = .ok (.iconst 0, 1) := by decide +kernel
theorem dX7_clear_2 : decode cX7_clear 2 = .ok (.putfield 34, 3) := by decide +kernel
theorem dX7_clear_5 : decode cX7_clear 5 = .ok (.aload_n 0, 1) := by decide +kernel
theorem dX7_clear_6 : decode cX7_clear 6 = .ok (.iconst 0, 1) := by decide +kernel
theorem dX7_clear_7 : decode cX7_clear 7 = .ok (.putfield 37, 3) := by decide +kernel
theorem dX7_clear_10 : decode cX7_clear 10 = .ok (.aload_n 0, 1) := by decide +kernel
theorem dX7_clear_11 : decode cX7_clear 11 = .ok (.bipush 100, 2) := by decide +kernel
theorem dX7_clear_13 : decode cX7_clear 13 = .ok (.putfield 30, 3) := by decide +kernel
theorem dX7_clear_16 : decode cX7_clear 16 = .ok (.iconst 0, 1) := by decide +kernel
theorem dX7_clear_17 : decode cX7_clear 17 = .ok (.istore_n 1, 1) := by decide +kernel
theorem dX7_clear_18 : decode cX7_clear 18 = .ok (.iload_n 1, 1) := by decide +kernel
theorem dX7_clear_19 : decode cX7_clear 19 = .ok (.iconst 5, 1) := by decide +kernel
theorem dX7_clear_20 : decode cX7_clear 20 = .ok (.if_icmp .ge 23, 3) := by decide +kernel
theorem dX7_clear_23 : decode cX7_clear 23 = .ok (.aload_n 0, 1) := by decide +kernel
theorem dX7_clear_24 : decode cX7_clear 24 = .ok (.getfield 24, 3) := by decide +kernel
theorem dX7_clear_27 : decode cX7_clear 27 = .ok (.iload_n 1, 1) := by decide +kernel
theorem dX7_clear_28 : decode cX7_clear 28 = .ok (.iconst 0, 1) := by decide +kernel
theorem dX7_clear_29 : decode cX7_clear 29 = .ok (.iastore, 1) := by decide +kernel
theorem dX7_clear_30 : decode cX7_clear 30 = .ok (.aload_n 0, 1) := by decide +kernel
theorem dX7_clear_31 : decode cX7_clear 31 = .ok (.getfield 27, 3) := by decide +kernel
theorem dX7_clear_34 : decode cX7_clear 34 = .ok (.iload_n 1, 1) := by decide +kernel
theorem dX7_clear_35 : decode cX7_clear 35 = .ok (.iconst 0, 1) := by decide +kernel
theorem dX7_clear_36 : decode cX7_clear 36 = .ok (.iastore, 1) := by decide +kernel
theorem dX7_clear_37 : decode cX7_clear 37 = .ok (.iinc 1 1, 3) := by decide +kernel
theorem dX7_clear_40 : decode cX7_clear 40 = .ok (.goto (-22), 3) := by decide +kernel
theorem dX7_clear_43 : decode cX7_clear 43 = .ok (.return_, 1) := by decide +kernel
theorem dX7_copyFrom_0 : decode cX7_copyFrom 0 = .ok (.aload_n 1, 1) := by decide +kernel
theorem dX7_copyFrom_1 : decode cX7_copyFrom 1 = .ok (.getfield 11, 3) := by decide +kernel
theorem dX7_copyFrom_4 : decode cX7_copyFrom 4 = .ok (.iconst 0, 1) := by decide +kernel
theorem dX7_copyFrom_5 : decode cX7_copyFrom 5 = .ok (.aload_n 0, 1) := by decide +kernel
theorem dX7_copyFrom_6 : decode cX7_copyFrom 6 = .ok (.getfield 11, 3) := by decide +kernel
theorem dX7_copyFrom_9 : decode cX7_copyFrom 9 = .ok (.iconst 0, 1) := by decide +kernel
theorem dX7_copyFrom_10 : decode cX7_copyFrom 10 = .ok (.bipush 8, 2) := by decide +kernel
theorem dX7_copyFrom_12 : decode cX7_copyFrom 12 = .ok (.invokestatic 40, 3) := by decide +kernel
theorem dX7_copyFrom_15 : decode cX7_copyFrom 15 = .ok (.aload_n 1, 1) := by decide +kernel
theorem dX7_copyFrom_16 : decode cX7_copyFrom 16 = .ok (.getfield 15, 3) := by decide +kernel
theorem dX7_copyFrom_19 : decode cX7_copyFrom 19 = .ok (.iconst 0, 1) := by decide +kernel
theorem dX7_copyFrom_20 : decode cX7_copyFrom 20 = .ok (.aload_n 0, 1) := by decide +kernel
theorem dX7_copyFrom_21 : decode cX7_copyFrom 21 = .ok (.getfield 15, 3) := by decide +kernel
theorem dX7_copyFrom_24 : decode cX7_copyFrom 24 = .ok (.iconst 0, 1) := by decide +kernel
theorem dX7_copyFrom_25 : decode cX7_copyFrom 25 = .ok (.bipush 8, 2) := by decide +kernel
theorem dX7_copyFrom_27 : decode cX7_copyFrom 27 = .ok (.invokestatic 40, 3) := by decide +kernel
theorem dX7_copyFrom_30 : decode cX7_copyFrom 30 = .ok (.aload_n 1, 1) := by decide +kernel
theorem dX7_copyFrom_31 : decode cX7_copyFrom 31 = .ok (.getfield 18, 3) := by decide +kernel
theorem dX7_copyFrom_34 : decode cX7_copyFrom 34 = .ok (.iconst 0, 1) := by decide +kernel
theorem dX7_copyFrom_35 : decode cX7_copyFrom 35 = .ok (.aload_n 0, 1) := by decide +kernel
theorem dX7_copyFrom_36 : decode cX7_copyFrom 36 = .ok (.getfield 18, 3) := by decide +kernel
theorem dX7_copyFrom_39 : decode cX7_copyFrom 39 = .ok (.iconst 0, 1) := by decide +kernel
theorem dX7_copyFrom_40 : decode cX7_copyFrom 40 = .ok (.bipush 8, 2) := by decide +kernel
theorem dX7_copyFrom_42 : decode cX7_copyFrom 42 = .ok (.invokestatic 40, 3) := by decide +kernel
theorem dX7_copyFrom_45 : decode cX7_copyFrom 45 = .ok (.aload_n 1, 1) := by decide +kernel
theorem dX7_copyFrom_46 : decode cX7_copyFrom 46 = .ok (.getfield 21, 3) := by decide +kernel
theorem dX7_copyFrom_49 : decode cX7_copyFrom 49 = .ok (.iconst 0, 1) := by decide +kernel
theorem dX7_copyFrom_50 : decode cX7_copyFrom 50 = .ok (.aload_n 0, 1) := by decide +kernel
theorem dX7_copyFrom_51 : decode cX7_copyFrom 51 = .ok (.getfield 21, 3) := by decide +kernel
theorem dX7_copyFrom_54 : decode cX7_copyFrom 54 = .ok (.iconst 0, 1) := by decide +kernel
theorem dX7_copyFrom_55 : decode cX7_copyFrom 55 = .ok (.bipush 8, 2) := by decide +kernel
theorem dX7_copyFrom_57 : decode cX7_copyFrom 57 = .ok (.invokestatic 40, 3) := by decide +kernel
theorem dX7_copyFrom_60 : decode cX7_copyFrom 60 = .ok (.aload_n 1, 1) := by decide +kernel
theorem dX7_copyFrom_61 : decode cX7_copyFrom 61 = .ok (.getfield 24, 3) := by decide +kernel
theorem dX7_copyFrom_64 : decode cX7_copyFrom 64 = .ok (.iconst 0, 1) := by decide +kernel
theorem dX7_copyFrom_65 : decode cX7_copyFrom 65 = .ok (.aload_n 0, 1) := by decide +kernel
theorem dX7_copyFrom_66 : decode cX7_copyFrom 66 = .ok (.getfield 24, 3) := by decide +kernel
theorem dX7_copyFrom_69 : decode cX7_copyFrom 69 = .ok (.iconst 0, 1) := by decide +kernel
theorem dX7_copyFrom_70 : decode cX7_copyFrom 70 = .ok (.iconst 5, 1) := by decide +kernel
theorem dX7_copyFrom_71 : decode cX7_copyFrom 71 = .ok (.invokestatic 40, 3) := by decide +kernel
theorem dX7_copyFrom_74 : decode cX7_copyFrom 74 = .ok (.aload_n 1, 1) := by decide +kernel
theorem dX7_copyFrom_75 : decode cX7_copyFrom 75 = .ok (.getfield 27, 3) := by decide +kernel
theorem dX7_copyFrom_78 : decode cX7_copyFrom 78 = .ok (.iconst 0, 1) := by decide +kernel
theorem dX7_copyFrom_79 : decode cX7_copyFrom 79 = .ok (.aload_n 0, 1) := by decide +kernel
theorem dX7_copyFrom_80 : decode cX7_copyFrom 80 = .ok (.getfield 27, 3) := by decide +kernel
theorem dX7_copyFrom_83 : decode cX7_copyFrom 83 = .ok (.iconst 0, 1) := by decide +kernel
theorem dX7_copyFrom_84 : decode cX7_copyFrom 84 = .ok (.iconst 5, 1) := by decide +kernel
theorem dX7_copyFrom_85 : decode cX7_copyFrom 85 = .ok (.invokestatic 40, 3) := by decide +kernel
theorem dX7_copyFrom_88 : decode cX7_copyFrom 88 = .ok (.aload_n 0, 1) := by decide +kernel
theorem dX7_copyFrom_89 : decode cX7_copyFrom 89 = .ok (.aload_n 1, 1) := by decide +kernel
theorem dX7_copyFrom_90 : decode cX7_copyFrom 90 = .ok (.getfield 34, 3) := by decide +kernel
theorem dX7_copyFrom_93 : decode cX7_copyFrom 93 = .ok (.putfield 34, 3) := by decide +kernel
theorem dX7_copyFrom_96 : decode cX7_copyFrom 96 = .ok (.aload_n 0, 1) := by decide +kernel
theorem dX7_copyFrom_97 : decode cX7_copyFrom 97 = .ok (.aload_n 1, 1) := by decide +kernel
theorem dX7_copyFrom_98 : decode cX7_copyFrom 98 = .ok (.getfield 37, 3) := by decide +kernel
theorem dX7_copyFrom_101 : decode cX7_copyFrom 101 = .ok (.putfield 37, 3) := by decide +kernel
theorem dX7_copyFrom_104 : decode cX7_copyFrom 104 = .ok (.aload_n 0, 1) := by decide +kernel
theorem dX7_copyFrom_105 : decode cX7_copyFrom 105 = .ok (.aload_n 1, 1) := by decide +kernel
theorem dX7_copyFrom_106 : decode cX7_copyFrom 106 = .ok (.getfield 30, 3) := by decide +kernel
theorem dX7_copyFrom_109 : decode cX7_copyFrom 109 = .ok (.putfield 30, 3) := by decide +kernel
theorem dX7_copyFrom_112 : decode cX7_copyFrom 112 = .ok (.return_, 1) := by decide +kernel
theorem dX7_writeTo_0 : decode cX7_writeTo 0 = .ok (.iload_n 2, 1) := by decide +kernel
theorem dX7_writeTo_1 : decode cX7_writeTo 1 = .ok (.ifCond .lt 12, 3) := by decide +kernel
theorem dX7_writeTo_4 : decode cX7_writeTo 4 = .ok (.iload_n 2, 1) := by decide +kernel
theorem dX7_writeTo_5 : decode cX7_writeTo 5 = .ok (.aload_n 1, 1) := by decide +kernel
theorem dX7_writeTo_6 : decode cX7_writeTo 6 = .ok (.arraylength, 1) := by decide +kernel
theorem dX7_writeTo_7 : decode cX7_writeTo 7 = .ok (.bipush 45, 2) := by decide +kernel
theorem dX7_writeTo_9 : decode cX7_writeTo 9 = .ok (.isub, 1) := by decide +kernel
theorem dX7_writeTo_10 : decode cX7_writeTo 10 = .ok (.if_icmp .le 4, 3) := by decide +kernel
theorem dX7_writeTo_13 : decode cX7_writeTo 13 = .ok (.return_, 1) := by decide +kernel
theorem dX7_writeTo_14 : decode cX7_writeTo 14 = .ok (.aload_n 0, 1) := by decide +kernel
theorem dX7_writeTo_15 : decode cX7_writeTo 15 = .ok (.getfield 11, 3) := by decide +kernel
theorem dX7_writeTo_18 : decode cX7_writeTo 18 = .ok (.iconst 0, 1) := by decide +kernel
theorem dX7_writeTo_19 : decode cX7_writeTo 19 = .ok (.aload_n 1, 1) := by decide +kernel
theorem dX7_writeTo_20 : decode cX7_writeTo 20 = .ok (.iload_n 2, 1) := by decide +kernel
theorem dX7_writeTo_21 : decode cX7_writeTo 21 = .ok (.bipush 8, 2) := by decide +kernel
theorem dX7_writeTo_23 : decode cX7_writeTo 23 = .ok (.invokestatic 40, 3) := by decide +kernel
theorem dX7_writeTo_26 : decode cX7_writeTo 26 = .ok (.aload_n 0, 1) := by decide +kernel
theorem dX7_writeTo_27 : decode cX7_writeTo 27 = .ok (.getfield 15, 3) := by decide +kernel
theorem dX7_writeTo_30 : decode cX7_writeTo 30 = .ok (.iconst 0, 1) := by decide +kernel
theorem dX7_writeTo_31 : decode cX7_writeTo 31 = .ok (.aload_n 1, 1) := by decide +kernel
theorem dX7_writeTo_32 : decode cX7_writeTo 32 = .ok (.iload_n 2, 1) := by decide +kernel
theorem dX7_writeTo_33 : decode cX7_writeTo 33 = .ok (.bipush 8, 2) := by decide +kernel
theorem dX7_writeTo_35 : decode cX7_writeTo 35 = .ok (.iadd, 1) := by decide +kernel
theorem dX7_writeTo_36 : decode cX7_writeTo 36 = .ok (.bipush 8, 2) := by decide +kernel
theorem dX7_writeTo_38 : decode cX7_writeTo 38 = .ok (.invokestatic 40, 3) := by decide +kernel
theorem dX7_writeTo_41 : decode cX7_writeTo 41 = .ok (.aload_n 0, 1) := by decide +kernel
theorem dX7_writeTo_42 : decode cX7_writeTo 42 = .ok (.getfield 18, 3) := by decide +kernel
theorem dX7_writeTo_45 : decode cX7_writeTo 45 = .ok (.iconst 0, 1) := by decide +kernel
theorem dX7_writeTo_46 : decode cX7_writeTo 46 = .ok (.aload_n 1, 1) := by decide +kernel
theorem dX7_writeTo_47 : decode cX7_writeTo 47 = .ok (.iload_n 2, 1) := by decide +kernel
theorem dX7_writeTo_48 : decode cX7_writeTo 48 = .ok (.bipush 16, 2) := by decide +kernel
theorem dX7_writeTo_50 : decode cX7_writeTo 50 = .ok (.iadd, 1) := by decide +kernel
theorem dX7_writeTo_51 : decode cX7_writeTo 51 = .ok (.bipush 8, 2) := by decide +kernel
theorem dX7_writeTo_53 : decode cX7_writeTo 53 = .ok (.invokestatic 40, 3) := by decide +kernel
theorem dX7_writeTo_56 : decode cX7_writeTo 56 = .ok (.aload_n 0, 1) := by decide +kernel
theorem dX7_writeTo_57 : decode cX7_writeTo 57 = .ok (.getfield 21, 3) := by decide +kernel
theorem dX7_writeTo_60 : decode cX7_writeTo 60 = .ok (.iconst 0, 1) := by decide +kernel
theorem dX7_writeTo_61 : decode cX7_writeTo 61 = .ok (.aload_n 1, 1) := by decide +kernel
theorem dX7_writeTo_62 : decode cX7_writeTo 62 = .ok (.iload_n 2, 1) := by decide +kernel
theorem dX7_writeTo_63 : decode cX7_writeTo 63 = .ok (.bipush 24, 2) := by decide +kernel
theorem dX7_writeTo_65 : decode cX7_writeTo 65 = .ok (.iadd, 1) := by decide +kernel
theorem dX7_writeTo_66 : decode cX7_writeTo 66 = .ok (.bipush 8, 2) := by decide +kernel
theorem dX7_writeTo_68 : decode cX7_writeTo 68 = .ok (.invokestatic 40, 3) := by decide +kernel
theorem dX7_writeTo_71 : decode cX7_writeTo 71 = .ok (.aload_n 0, 1) := by decide +kernel
theorem dX7_writeTo_72 : decode cX7_writeTo 72 = .ok (.getfield 24, 3) := by decide +kernel
theorem dX7_writeTo_75 : decode cX7_writeTo 75 = .ok (.iconst 0, 1) := by decide +kernel
theorem dX7_writeTo_76 : decode cX7_writeTo 76 = .ok (.aload_n 1, 1) := by decide +kernel
theorem dX7_writeTo_77 : decode cX7_writeTo 77 = .ok (.iload_n 2, 1) := by decide +kernel
theorem dX7_writeTo_78 : decode cX7_writeTo 78 = .ok (.bipush 32, 2) := by decide +kernel
theorem dX7_writeTo_80 : decode cX7_writeTo 80 = .ok (.iadd, 1) := by decide +kernel
theorem dX7_writeTo_81 : decode cX7_writeTo 81 = .ok (.iconst 5, 1) := by decide +kernel
theorem dX7_writeTo_82 : decode cX7_writeTo 82 = .ok (.invokestatic 40, 3) := by decide +kernel
theorem dX7_writeTo_85 : decode cX7_writeTo 85 = .ok (.aload_n 0, 1) := by decide +kernel
theorem dX7_writeTo_86 : decode cX7_writeTo 86 = .ok (.getfield 27, 3) := by decide +kernel
theorem dX7_writeTo_89 : decode cX7_writeTo 89 = .ok (.iconst 0, 1) := by decide +kernel
theorem dX7_writeTo_90 : decode cX7_writeTo 90 = .ok (.aload_n 1, 1) := by decide +kernel
theorem dX7_writeTo_91 : decode cX7_writeTo 91 = .ok (.iload_n 2, 1) := by decide +kernel
theorem dX7_writeTo_92 : decode cX7_writeTo 92 = .ok (.bipush 37, 2) := by decide +kernel
theorem dX7_writeTo_94 : decode cX7_writeTo 94 = .ok (.iadd, 1) := by decide +kernel
theorem dX7_writeTo_95 : decode cX7_writeTo 95 = .ok (.iconst 5, 1) := by decide +kernel
theorem dX7_writeTo_96 : decode cX7_writeTo 96 = .ok (.invokestatic 40, 3) := by decide +kernel
theorem dX7_writeTo_99 : decode cX7_writeTo 99 = .ok (.aload_n 1, 1) := by decide +kernel
theorem dX7_writeTo_100 : decode cX7_writeTo 100 = .ok (.iload_n 2, 1) := by decide +kernel
theorem dX7_writeTo_101 : decode cX7_writeTo 101 = .ok (.bipush 42, 2) := by decide +kernel
theorem dX7_writeTo_103 : decode cX7_writeTo 103 = .ok (.iadd, 1) := by decide +kernel
theorem dX7_writeTo_104 : decode cX7_writeTo 104 = .ok (.aload_n 0, 1) := by decide +kernel
theorem dX7_writeTo_105 : decode cX7_writeTo 105 = .ok (.getfield 34, 3) := by decide +kernel
theorem dX7_writeTo_108 : decode cX7_writeTo 108 = .ok (.iastore, 1) := by decide +kernel
theorem dX7_writeTo_109 : decode cX7_writeTo 109 = .ok (.aload_n 1, 1) := by decide +kernel
theorem dX7_writeTo_110 : decode cX7_writeTo 110 = .ok (.iload_n 2, 1) := by decide +kernel
theorem dX7_writeTo_111 : decode cX7_writeTo 111 = .ok (.bipush 43, 2) := by decide +kernel
theorem dX7_writeTo_113 : decode cX7_writeTo 113 = .ok (.iadd, 1) := by decide +kernel
theorem dX7_writeTo_114 : decode cX7_writeTo 114 = .ok (.aload_n 0, 1) := by decide +kernel
theorem dX7_writeTo_115 : decode cX7_writeTo 115 = .ok (.getfield 37, 3) := by decide +kernel
theorem dX7_writeTo_118 : decode cX7_writeTo 118 = .ok (.iastore, 1) := by decide +kernel
theorem dX7_writeTo_119 : decode cX7_writeTo 119 = .ok (.aload_n 1, 1) := by decide +kernel
theorem dX7_writeTo_120 : decode cX7_writeTo 120 = .ok (.iload_n 2, 1) := by decide +kernel
theorem dX7_writeTo_121 : decode cX7_writeTo 121 = .ok (.bipush 44, 2) := by decide +kernel
theorem dX7_writeTo_123 : decode cX7_writeTo 123 = .ok (.iadd, 1) := by decide +kernel
theorem dX7_writeTo_124 : decode cX7_writeTo 124 = .ok (.aload_n 0, 1) := by decide +kernel
theorem dX7_writeTo_125 : decode cX7_writeTo 125 = .ok (.getfield 30, 3) := by decide +kernel
theorem dX7_writeTo_128 : decode cX7_writeTo 128 = .ok (.iastore, 1) := by decide +kernel
theorem dX7_writeTo_129 : decode cX7_writeTo 129 = .ok (.return_, 1) := by decide +kernel
theorem dX7_readFrom_0 : decode cX7_readFrom 0 = .ok (.iload_n 2, 1) := by decide +kernel
theorem dX7_readFrom_1 : decode cX7_readFrom 1 = .ok (.ifCond .lt 12, 3) := by decide +kernel
theorem dX7_readFrom_4 : decode cX7_readFrom 4 = .ok (.iload_n 2, 1) := by decide +kernel
theorem dX7_readFrom_5 : decode cX7_readFrom 5 = .ok (.aload_n 1, 1) := by decide +kernel
theorem dX7_readFrom_6 : decode cX7_readFrom 6 = .ok (.arraylength, 1) := by decide +kernel
theorem dX7_readFrom_7 : decode cX7_readFrom 7 = .ok (.bipush 45, 2) := by decide +kernel
theorem dX7_readFrom_9 : decode cX7_readFrom 9 = .ok (.isub, 1) := by decide +kernel
theorem dX7_readFrom_10 : decode cX7_readFrom 10 = .ok (.if_icmp .le 4, 3) := by decide +kernel
theorem dX7_readFrom_13 : decode cX7_readFrom 13 = .ok (.return_, 1) := by decide +kernel
theorem dX7_readFrom_14 : decode cX7_readFrom 14 = .ok (.aload_n 1, 1) := by decide +kernel
theorem dX7_readFrom_15 : decode cX7_readFrom 15 = .ok (.iload_n 2, 1) := by decide +kernel
theorem dX7_readFrom_16 : decode cX7_readFrom 16 = .ok (.aload_n 0, 1) := by decide +kernel
theorem dX7_readFrom_17 : decode cX7_readFrom 17 = .ok (.getfield 11, 3) := by decide +kernel
theorem dX7_readFrom_20 : decode cX7_readFrom 20 = .ok (.iconst 0, 1) := by decide +kernel
theorem dX7_readFrom_21 : decode cX7_readFrom 21 = .ok (.bipush 8, 2) := by decide +kernel
theorem dX7_readFrom_23 : decode cX7_readFrom 23 = .ok (.invokestatic 40, 3) := by decide +kernel
theorem dX7_readFrom_26 : decode cX7_readFrom 26 = .ok (.aload_n 1, 1) := by decide +kernel
theorem dX7_readFrom_27 : decode cX7_readFrom 27 = .ok (.iload_n 2, 1) := by decide +kernel
theorem dX7_readFrom_28 : decode cX7_readFrom 28 = .ok (.bipush 8, 2) := by decide +kernel
theorem dX7_readFrom_30 : decode cX7_readFrom 30 = .ok (.iadd, 1) := by decide +kernel
theorem dX7_readFrom_31 : decode cX7_readFrom 31 = .ok (.aload_n 0, 1) := by decide +kernel
theorem dX7_readFrom_32 : decode cX7_readFrom 32 = .ok (.getfield 15, 3) := by decide +kernel
theorem dX7_readFrom_35 : decode cX7_readFrom 35 = .ok (.iconst 0, 1) := by decide +kernel
theorem dX7_readFrom_36 : decode cX7_readFrom 36 = .ok (.bipush 8, 2) := by decide +kernel
theorem dX7_readFrom_38 : decode cX7_readFrom 38 = .ok (.invokestatic 40, 3) := by decide +kernel
theorem dX7_readFrom_41 : decode cX7_readFrom 41 = .ok (.aload_n 1, 1) := by decide +kernel
theorem dX7_readFrom_42 : decode cX7_readFrom 42 = .ok (.iload_n 2, 1) := by decide +kernel
theorem dX7_readFrom_43 : decode cX7_readFrom 43 = .ok (.bipush 16, 2) := by decide +kernel
theorem dX7_readFrom_45 : decode cX7_readFrom 45 = .ok (.iadd, 1) := by decide +kernel
theorem dX7_readFrom_46 : decode cX7_readFrom 46 = .ok (.aload_n 0, 1) := by decide +kernel
theorem dX7_readFrom_47 : decode cX7_readFrom 47 = .ok (.getfield 18, 3) := by decide +kernel
theorem dX7_readFrom_50 : decode cX7_readFrom 50 = .ok (.iconst 0, 1) := by decide +kernel
theorem dX7_readFrom_51 : decode cX7_readFrom 51 = .ok (.bipush 8, 2) := by decide +kernel
theorem dX7_readFrom_53 : decode cX7_readFrom 53 = .ok (.invokestatic 40, 3) := by decide +kernel
theorem dX7_readFrom_56 : decode cX7_readFrom 56 = .ok (.aload_n 1, 1) := by decide +kernel
theorem dX7_readFrom_57 : decode cX7_readFrom 57 = .ok (.iload_n 2, 1) := by decide +kernel
theorem dX7_readFrom_58 : decode cX7_readFrom 58 = .ok (.bipush 24, 2) := by decide +kernel
theorem dX7_readFrom_60 : decode cX7_readFrom 60 = .ok (.iadd, 1) := by decide +kernel
theorem dX7_readFrom_61 : decode cX7_readFrom 61 = .ok (.aload_n 0, 1) := by decide +kernel
theorem dX7_readFrom_62 : decode cX7_readFrom 62 = .ok (.getfield 21, 3) := by decide +kernel
theorem dX7_readFrom_65 : decode cX7_readFrom 65 = .ok (.iconst 0, 1) := by decide +kernel
theorem dX7_readFrom_66 : decode cX7_readFrom 66 = .ok (.bipush 8, 2) := by decide +kernel
theorem dX7_readFrom_68 : decode cX7_readFrom 68 = .ok (.invokestatic 40, 3) := by decide +kernel
theorem dX7_readFrom_71 : decode cX7_readFrom 71 = .ok (.aload_n 1, 1) := by decide +kernel
theorem dX7_readFrom_72 : decode cX7_readFrom 72 = .ok (.iload_n 2, 1) := by decide +kernel
theorem dX7_readFrom_73 : decode cX7_readFrom 73 = .ok (.bipush 32, 2) := by decide +kernel
theorem dX7_readFrom_75 : decode cX7_readFrom 75 = .ok (.iadd, 1) := by decide +kernel
theorem dX7_readFrom_76 : decode cX7_readFrom 76 = .ok (.aload_n 0, 1) := by decide +kernel
theorem dX7_readFrom_77 : decode cX7_readFrom 77 = .ok (.getfield 24, 3) := by decide +kernel
theorem dX7_readFrom_80 : decode cX7_readFrom 80 = .ok (.iconst 0, 1) := by decide +kernel
theorem dX7_readFrom_81 : decode cX7_readFrom 81 = .ok (.iconst 5, 1) := by decide +kernel
theorem dX7_readFrom_82 : decode cX7_readFrom 82 = .ok (.invokestatic 40, 3) := by decide +kernel
theorem dX7_readFrom_85 : decode cX7_readFrom 85 = .ok (.aload_n 1, 1) := by decide +kernel
theorem dX7_readFrom_86 : decode cX7_readFrom 86 = .ok (.iload_n 2, 1) := by decide +kernel
theorem dX7_readFrom_87 : decode cX7_readFrom 87 = .ok (.bipush 37, 2) := by decide +kernel
theorem dX7_readFrom_89 : decode cX7_readFrom 89 = .ok (.iadd, 1) := by decide +kernel
theorem dX7_readFrom_90 : decode cX7_readFrom 90 = .ok (.aload_n 0, 1) := by decide +kernel
theorem dX7_readFrom_91 : decode cX7_readFrom 91 = .ok (.getfield 27, 3) := by decide +kernel
theorem dX7_readFrom_94 : decode cX7_readFrom 94 = .ok (.iconst 0, 1) := by decide +kernel
theorem dX7_readFrom_95 : decode cX7_readFrom 95 = .ok (.iconst 5, 1) := by decide +kernel
theorem dX7_readFrom_96 : decode cX7_readFrom 96 = .ok (.invokestatic 40, 3) := by decide +kernel
theorem dX7_readFrom_99 : decode cX7_readFrom 99 = .ok (.aload_n 0, 1) := by decide +kernel
theorem dX7_readFrom_100 : decode cX7_readFrom 100 = .ok (.aload_n 1, 1) := by decide +kernel
theorem dX7_readFrom_101 : decode cX7_readFrom 101 = .ok (.iload_n 2, 1) := by decide +kernel
theorem dX7_readFrom_102 : decode cX7_readFrom 102 = .ok (.bipush 42, 2) := by decide +kernel
theorem dX7_readFrom_104 : decode cX7_readFrom 104 = .ok (.iadd, 1) := by decide +kernel
theorem dX7_readFrom_105 : decode cX7_readFrom 105 = .ok (.iaload, 1) := by decide +kernel
theorem dX7_readFrom_106 : decode cX7_readFrom 106 = .ok (.putfield 34, 3) := by decide +kernel
theorem dX7_readFrom_109 : decode cX7_readFrom 109 = .ok (.aload_n 0, 1) := by decide +kernel
theorem dX7_readFrom_110 : decode cX7_readFrom 110 = .ok (.aload_n 1, 1) := by decide +kernel
theorem dX7_readFrom_111 : decode cX7_readFrom 111 = .ok (.iload_n 2, 1) := by decide +kernel
theorem dX7_readFrom_112 : decode cX7_readFrom 112 = .ok (.bipush 43, 2) := by decide +kernel
theorem dX7_readFrom_114 : decode cX7_readFrom 114 = .ok (.iadd, 1) := by decide +kernel
theorem dX7_readFrom_115 : decode cX7_readFrom 115 = .ok (.iaload, 1) := by decide +kernel
theorem dX7_readFrom_116 : decode cX7_readFrom 116 = .ok (.putfield 37, 3) := by decide +kernel
theorem dX7_readFrom_119 : decode cX7_readFrom 119 = .ok (.aload_n 0, 1) := by decide +kernel
theorem dX7_readFrom_120 : decode cX7_readFrom 120 = .ok (.aload_n 1, 1) := by decide +kernel
theorem dX7_readFrom_121 : decode cX7_readFrom 121 = .ok (.iload_n 2, 1) := by decide +kernel
theorem dX7_readFrom_122 : decode cX7_readFrom 122 = .ok (.bipush 44, 2) := by decide +kernel
theorem dX7_readFrom_124 : decode cX7_readFrom 124 = .ok (.iadd, 1) := by decide +kernel
theorem dX7_readFrom_125 : decode cX7_readFrom 125 = .ok (.iaload, 1) := by decide +kernel
theorem dX7_readFrom_126 : decode cX7_readFrom 126 = .ok (.putfield 30, 3) := by decide +kernel
theorem dX7_readFrom_129 : decode cX7_readFrom 129 = .ok (.return_, 1) := by decide +kernel
theorem dX7_addBeast_0 : decode cX7_addBeast 0 = .ok (.aload_n 0, 1) := by decide +kernel
theorem dX7_addBeast_1 : decode cX7_addBeast 1 = .ok (.getfield 34, 3) := by decide +kernel
theorem dX7_addBeast_4 : decode cX7_addBeast 4 = .ok (.bipush 8, 2) := by decide +kernel
theorem dX7_addBeast_6 : decode cX7_addBeast 6 = .ok (.if_icmp .lt 5, 3) := by decide +kernel
theorem dX7_addBeast_9 : decode cX7_addBeast 9 = .ok (.iconst 0, 1) := by decide +kernel
theorem dX7_addBeast_10 : decode cX7_addBeast 10 = .ok (.ireturn, 1) := by decide +kernel
theorem dX7_addBeast_11 : decode cX7_addBeast 11 = .ok (.aload_n 0, 1) := by decide +kernel
theorem dX7_addBeast_12 : decode cX7_addBeast 12 = .ok (.getfield 11, 3) := by decide +kernel
theorem dX7_addBeast_15 : decode cX7_addBeast 15 = .ok (.aload_n 0, 1) := by decide +kernel
theorem dX7_addBeast_16 : decode cX7_addBeast 16 = .ok (.getfield 34, 3) := by decide +kernel
theorem dX7_addBeast_19 : decode cX7_addBeast 19 = .ok (.iload_n 1, 1) := by decide +kernel
theorem dX7_addBeast_20 : decode cX7_addBeast 20 = .ok (.iastore, 1) := by decide +kernel
theorem dX7_addBeast_21 : decode cX7_addBeast 21 = .ok (.aload_n 0, 1) := by decide +kernel
theorem dX7_addBeast_22 : decode cX7_addBeast 22 = .ok (.getfield 15, 3) := by decide +kernel
theorem dX7_addBeast_25 : decode cX7_addBeast 25 = .ok (.aload_n 0, 1) := by decide +kernel
theorem dX7_addBeast_26 : decode cX7_addBeast 26 = .ok (.getfield 34, 3) := by decide +kernel
theorem dX7_addBeast_29 : decode cX7_addBeast 29 = .ok (.iload_n 1, 1) := by decide +kernel
theorem dX7_addBeast_30 : decode cX7_addBeast 30 = .ok (.iastore, 1) := by decide +kernel
theorem dX7_addBeast_31 : decode cX7_addBeast 31 = .ok (.aload_n 0, 1) := by decide +kernel
theorem dX7_addBeast_32 : decode cX7_addBeast 32 = .ok (.getfield 18, 3) := by decide +kernel
theorem dX7_addBeast_35 : decode cX7_addBeast 35 = .ok (.aload_n 0, 1) := by decide +kernel
theorem dX7_addBeast_36 : decode cX7_addBeast 36 = .ok (.getfield 34, 3) := by decide +kernel
theorem dX7_addBeast_39 : decode cX7_addBeast 39 = .ok (.iload_n 2, 1) := by decide +kernel
theorem dX7_addBeast_40 : decode cX7_addBeast 40 = .ok (.iastore, 1) := by decide +kernel
theorem dX7_addBeast_41 : decode cX7_addBeast 41 = .ok (.aload_n 0, 1) := by decide +kernel
theorem dX7_addBeast_42 : decode cX7_addBeast 42 = .ok (.getfield 21, 3) := by decide +kernel
theorem dX7_addBeast_45 : decode cX7_addBeast 45 = .ok (.aload_n 0, 1) := by decide +kernel
theorem dX7_addBeast_46 : decode cX7_addBeast 46 = .ok (.getfield 34, 3) := by decide +kernel
theorem dX7_addBeast_49 : decode cX7_addBeast 49 = .ok (.iconst 0, 1) := by decide +kernel
theorem dX7_addBeast_50 : decode cX7_addBeast 50 = .ok (.iastore, 1) := by decide +kernel
theorem dX7_addBeast_51 : decode cX7_addBeast 51 = .ok (.aload_n 0, 1) := by decide +kernel
theorem dX7_addBeast_52 : decode cX7_addBeast 52 = .ok (.dup, 1) := by decide +kernel
theorem dX7_addBeast_53 : decode cX7_addBeast 53 = .ok (.getfield 34, 3) := by decide +kernel
theorem dX7_addBeast_56 : decode cX7_addBeast 56 = .ok (.iconst 1, 1) := by decide +kernel
theorem dX7_addBeast_57 : decode cX7_addBeast 57 = .ok (.iadd, 1) := by decide +kernel
theorem dX7_addBeast_58 : decode cX7_addBeast 58 = .ok (.putfield 34, 3) := by decide +kernel
theorem dX7_addBeast_61 : decode cX7_addBeast 61 = .ok (.iconst 1, 1) := by decide +kernel
theorem dX7_addBeast_62 : decode cX7_addBeast 62 = .ok (.ireturn, 1) := by decide +kernel
theorem dX7_foalNumber_0 : decode cX7_foalNumber 0 = .ok (.aload_n 0, 1) := by decide +kernel
theorem dX7_foalNumber_1 : decode cX7_foalNumber 1 = .ok (.getfield 15, 3) := by decide +kernel
theorem dX7_foalNumber_4 : decode cX7_foalNumber 4 = .ok (.iload_n 1, 1) := by decide +kernel
theorem dX7_foalNumber_5 : decode cX7_foalNumber 5 = .ok (.iaload, 1) := by decide +kernel
theorem dX7_foalNumber_6 : decode cX7_foalNumber 6 = .ok (.aload_n 0, 1) := by decide +kernel
theorem dX7_foalNumber_7 : decode cX7_foalNumber 7 = .ok (.getfield 15, 3) := by decide +kernel
theorem dX7_foalNumber_10 : decode cX7_foalNumber 10 = .ok (.iload_n 2, 1) := by decide +kernel
theorem dX7_foalNumber_11 : decode cX7_foalNumber 11 = .ok (.iaload, 1) := by decide +kernel
theorem dX7_foalNumber_12 : decode cX7_foalNumber 12 = .ok (.iadd, 1) := by decide +kernel
theorem dX7_foalNumber_13 : decode cX7_foalNumber 13 = .ok (.sipush 256, 3) := by decide +kernel
theorem dX7_foalNumber_16 : decode cX7_foalNumber 16 = .ok (.irem, 1) := by decide +kernel
theorem dX7_foalNumber_17 : decode cX7_foalNumber 17 = .ok (.ireturn, 1) := by decide +kernel
theorem dX7_setStripe_0 : decode cX7_setStripe 0 = .ok (.aload_n 0, 1) := by decide +kernel
theorem dX7_setStripe_1 : decode cX7_setStripe 1 = .ok (.getfield 11, 3) := by decide +kernel
theorem dX7_setStripe_4 : decode cX7_setStripe 4 = .ok (.iload_n 1, 1) := by decide +kernel
theorem dX7_setStripe_5 : decode cX7_setStripe 5 = .ok (.iaload, 1) := by decide +kernel
theorem dX7_setStripe_6 : decode cX7_setStripe 6 = .ok (.iload_n 2, 1) := by decide +kernel
theorem dX7_setStripe_7 : decode cX7_setStripe 7 = .ok (.ishr, 1) := by decide +kernel
theorem dX7_setStripe_8 : decode cX7_setStripe 8 = .ok (.iconst 1, 1) := by decide +kernel
theorem dX7_setStripe_9 : decode cX7_setStripe 9 = .ok (.iand, 1) := by decide +kernel
theorem dX7_setStripe_10 : decode cX7_setStripe 10 = .ok (.iload_n 3, 1) := by decide +kernel
theorem dX7_setStripe_11 : decode cX7_setStripe 11 = .ok (.if_icmp .ne 5, 3) := by decide +kernel
theorem dX7_setStripe_14 : decode cX7_setStripe 14 = .ok (.iconst 0, 1) := by decide +kernel
theorem dX7_setStripe_15 : decode cX7_setStripe 15 = .ok (.ireturn, 1) := by decide +kernel
theorem dX7_setStripe_16 : decode cX7_setStripe 16 = .ok (.aload_n 0, 1) := by decide +kernel
theorem dX7_setStripe_17 : decode cX7_setStripe 17 = .ok (.getfield 11, 3) := by decide +kernel
theorem dX7_setStripe_20 : decode cX7_setStripe 20 = .ok (.iload_n 1, 1) := by decide +kernel
theorem dX7_setStripe_21 : decode cX7_setStripe 21 = .ok (.dup2, 1) := by decide +kernel
theorem dX7_setStripe_22 : decode cX7_setStripe 22 = .ok (.iaload, 1) := by decide +kernel
theorem dX7_setStripe_23 : decode cX7_setStripe 23 = .ok (.iconst 1, 1) := by decide +kernel
theorem dX7_setStripe_24 : decode cX7_setStripe 24 = .ok (.iload_n 2, 1) := by decide +kernel
theorem dX7_setStripe_25 : decode cX7_setStripe 25 = .ok (.ishl, 1) := by decide +kernel
theorem dX7_setStripe_26 : decode cX7_setStripe 26 = .ok (.ixor, 1) := by decide +kernel
theorem dX7_setStripe_27 : decode cX7_setStripe 27 = .ok (.iastore, 1) := by decide +kernel
theorem dX7_setStripe_28 : decode cX7_setStripe 28 = .ok (.iconst 1, 1) := by decide +kernel
theorem dX7_setStripe_29 : decode cX7_setStripe 29 = .ok (.ireturn, 1) := by decide +kernel
theorem dX7_clean_0 : decode cX7_clean 0 = .ok (.aload_n 0, 1) := by decide +kernel
theorem dX7_clean_1 : decode cX7_clean 1 = .ok (.getfield 11, 3) := by decide +kernel
theorem dX7_clean_4 : decode cX7_clean 4 = .ok (.iload_n 1, 1) := by decide +kernel
theorem dX7_clean_5 : decode cX7_clean 5 = .ok (.iaload, 1) := by decide +kernel
theorem dX7_clean_6 : decode cX7_clean 6 = .ok (.aload_n 0, 1) := by decide +kernel
theorem dX7_clean_7 : decode cX7_clean 7 = .ok (.getfield 15, 3) := by decide +kernel
theorem dX7_clean_10 : decode cX7_clean 10 = .ok (.iload_n 1, 1) := by decide +kernel
theorem dX7_clean_11 : decode cX7_clean 11 = .ok (.iaload, 1) := by decide +kernel
theorem dX7_clean_12 : decode cX7_clean 12 = .ok (.if_icmp .ne 5, 3) := by decide +kernel
theorem dX7_clean_15 : decode cX7_clean 15 = .ok (.iconst 0, 1) := by decide +kernel
theorem dX7_clean_16 : decode cX7_clean 16 = .ok (.ireturn, 1) := by decide +kernel
theorem dX7_clean_17 : decode cX7_clean 17 = .ok (.aload_n 0, 1) := by decide +kernel
theorem dX7_clean_18 : decode cX7_clean 18 = .ok (.getfield 11, 3) := by decide +kernel
theorem dX7_clean_21 : decode cX7_clean 21 = .ok (.iload_n 1, 1) := by decide +kernel
theorem dX7_clean_22 : decode cX7_clean 22 = .ok (.aload_n 0, 1) := by decide +kernel
theorem dX7_clean_23 : decode cX7_clean 23 = .ok (.getfield 15, 3) := by decide +kernel
theorem dX7_clean_26 : decode cX7_clean 26 = .ok (.iload_n 1, 1) := by decide +kernel
theorem dX7_clean_27 : decode cX7_clean 27 = .ok (.iaload, 1) := by decide +kernel
theorem dX7_clean_28 : decode cX7_clean 28 = .ok (.iastore, 1) := by decide +kernel
theorem dX7_clean_29 : decode cX7_clean 29 = .ok (.iconst 1, 1) := by decide +kernel
theorem dX7_clean_30 : decode cX7_clean 30 = .ok (.ireturn, 1) := by decide +kernel
theorem dX7_growOlder_0 : decode cX7_growOlder 0 = .ok (.aload_n 0, 1) := by decide +kernel
theorem dX7_growOlder_1 : decode cX7_growOlder 1 = .ok (.dup, 1) := by decide +kernel
theorem dX7_growOlder_2 : decode cX7_growOlder 2 = .ok (.getfield 37, 3) := by decide +kernel
theorem dX7_growOlder_5 : decode cX7_growOlder 5 = .ok (.iconst 1, 1) := by decide +kernel
theorem dX7_growOlder_6 : decode cX7_growOlder 6 = .ok (.iadd, 1) := by decide +kernel
theorem dX7_growOlder_7 : decode cX7_growOlder 7 = .ok (.putfield 37, 3) := by decide +kernel
theorem dX7_growOlder_10 : decode cX7_growOlder 10 = .ok (.iconst 0, 1) := by decide +kernel
theorem dX7_growOlder_11 : decode cX7_growOlder 11 = .ok (.istore_n 1, 1) := by decide +kernel
theorem dX7_growOlder_12 : decode cX7_growOlder 12 = .ok (.iload_n 1, 1) := by decide +kernel
theorem dX7_growOlder_13 : decode cX7_growOlder 13 = .ok (.aload_n 0, 1) := by decide +kernel
theorem dX7_growOlder_14 : decode cX7_growOlder 14 = .ok (.getfield 34, 3) := by decide +kernel
theorem dX7_growOlder_17 : decode cX7_growOlder 17 = .ok (.if_icmp .ge 19, 3) := by decide +kernel
theorem dX7_growOlder_20 : decode cX7_growOlder 20 = .ok (.aload_n 0, 1) := by decide +kernel
theorem dX7_growOlder_21 : decode cX7_growOlder 21 = .ok (.getfield 18, 3) := by decide +kernel
theorem dX7_growOlder_24 : decode cX7_growOlder 24 = .ok (.iload_n 1, 1) := by decide +kernel
theorem dX7_growOlder_25 : decode cX7_growOlder 25 = .ok (.dup2, 1) := by decide +kernel
theorem dX7_growOlder_26 : decode cX7_growOlder 26 = .ok (.iaload, 1) := by decide +kernel
theorem dX7_growOlder_27 : decode cX7_growOlder 27 = .ok (.iconst 1, 1) := by decide +kernel
theorem dX7_growOlder_28 : decode cX7_growOlder 28 = .ok (.iadd, 1) := by decide +kernel
theorem dX7_growOlder_29 : decode cX7_growOlder 29 = .ok (.iastore, 1) := by decide +kernel
theorem dX7_growOlder_30 : decode cX7_growOlder 30 = .ok (.iinc 1 1, 3) := by decide +kernel
theorem dX7_growOlder_33 : decode cX7_growOlder 33 = .ok (.goto (-21), 3) := by decide +kernel
theorem dX7_growOlder_36 : decode cX7_growOlder 36 = .ok (.return_, 1) := by decide +kernel
theorem dX7_changedBeasts_0 : decode cX7_changedBeasts 0 = .ok (.iconst 0, 1) := by decide +kernel
theorem dX7_changedBeasts_1 : decode cX7_changedBeasts 1 = .ok (.istore_n 1, 1) := by decide +kernel
theorem dX7_changedBeasts_2 : decode cX7_changedBeasts 2 = .ok (.iconst 0, 1) := by decide +kernel
theorem dX7_changedBeasts_3 : decode cX7_changedBeasts 3 = .ok (.istore_n 2, 1) := by decide +kernel
theorem dX7_changedBeasts_4 : decode cX7_changedBeasts 4 = .ok (.iload_n 2, 1) := by decide +kernel
theorem dX7_changedBeasts_5 : decode cX7_changedBeasts 5 = .ok (.aload_n 0, 1) := by decide +kernel
theorem dX7_changedBeasts_6 : decode cX7_changedBeasts 6 = .ok (.getfield 34, 3) := by decide +kernel
theorem dX7_changedBeasts_9 : decode cX7_changedBeasts 9 = .ok (.if_icmp .ge 30, 3) := by decide +kernel
theorem dX7_changedBeasts_12 : decode cX7_changedBeasts 12 = .ok (.aload_n 0, 1) := by decide +kernel
theorem dX7_changedBeasts_13 : decode cX7_changedBeasts 13 = .ok (.getfield 11, 3) := by decide +kernel
theorem dX7_changedBeasts_16 : decode cX7_changedBeasts 16 = .ok (.iload_n 2, 1) := by decide +kernel
theorem dX7_changedBeasts_17 : decode cX7_changedBeasts 17 = .ok (.iaload, 1) := by decide +kernel
theorem dX7_changedBeasts_18 : decode cX7_changedBeasts 18 = .ok (.aload_n 0, 1) := by decide +kernel
theorem dX7_changedBeasts_19 : decode cX7_changedBeasts 19 = .ok (.getfield 15, 3) := by decide +kernel
theorem dX7_changedBeasts_22 : decode cX7_changedBeasts 22 = .ok (.iload_n 2, 1) := by decide +kernel
theorem dX7_changedBeasts_23 : decode cX7_changedBeasts 23 = .ok (.iaload, 1) := by decide +kernel
theorem dX7_changedBeasts_24 : decode cX7_changedBeasts 24 = .ok (.if_icmp .eq 9, 3) := by decide +kernel
theorem dX7_changedBeasts_27 : decode cX7_changedBeasts 27 = .ok (.iload_n 1, 1) := by decide +kernel
theorem dX7_changedBeasts_28 : decode cX7_changedBeasts 28 = .ok (.iconst 1, 1) := by decide +kernel
theorem dX7_changedBeasts_29 : decode cX7_changedBeasts 29 = .ok (.iload_n 2, 1) := by decide +kernel
theorem dX7_changedBeasts_30 : decode cX7_changedBeasts 30 = .ok (.ishl, 1) := by decide +kernel
theorem dX7_changedBeasts_31 : decode cX7_changedBeasts 31 = .ok (.ior, 1) := by decide +kernel
theorem dX7_changedBeasts_32 : decode cX7_changedBeasts 32 = .ok (.istore_n 1, 1) := by decide +kernel
theorem dX7_changedBeasts_33 : decode cX7_changedBeasts 33 = .ok (.iinc 2 1, 3) := by decide +kernel
theorem dX7_changedBeasts_36 : decode cX7_changedBeasts 36 = .ok (.goto (-32), 3) := by decide +kernel
theorem dX7_changedBeasts_39 : decode cX7_changedBeasts 39 = .ok (.iload_n 1, 1) := by decide +kernel
theorem dX7_changedBeasts_40 : decode cX7_changedBeasts 40 = .ok (.ireturn, 1) := by decide +kernel
theorem dX7_goneInAll_0 : decode cX7_goneInAll 0 = .ok (.iconst 0, 1) := by decide +kernel
theorem dX7_goneInAll_1 : decode cX7_goneInAll 1 = .ok (.istore_n 1, 1) := by decide +kernel
theorem dX7_goneInAll_2 : decode cX7_goneInAll 2 = .ok (.iconst 0, 1) := by decide +kernel
theorem dX7_goneInAll_3 : decode cX7_goneInAll 3 = .ok (.istore_n 2, 1) := by decide +kernel
theorem dX7_goneInAll_4 : decode cX7_goneInAll 4 = .ok (.iload_n 2, 1) := by decide +kernel
theorem dX7_goneInAll_5 : decode cX7_goneInAll 5 = .ok (.iconst 5, 1) := by decide +kernel
theorem dX7_goneInAll_6 : decode cX7_goneInAll 6 = .ok (.if_icmp .ge 18, 3) := by decide +kernel
theorem dX7_goneInAll_9 : decode cX7_goneInAll 9 = .ok (.iload_n 1, 1) := by decide +kernel
theorem dX7_goneInAll_10 : decode cX7_goneInAll 10 = .ok (.aload_n 0, 1) := by decide +kernel
theorem dX7_goneInAll_11 : decode cX7_goneInAll 11 = .ok (.getfield 24, 3) := by decide +kernel
theorem dX7_goneInAll_14 : decode cX7_goneInAll 14 = .ok (.iload_n 2, 1) := by decide +kernel
theorem dX7_goneInAll_15 : decode cX7_goneInAll 15 = .ok (.iaload, 1) := by decide +kernel
theorem dX7_goneInAll_16 : decode cX7_goneInAll 16 = .ok (.iadd, 1) := by decide +kernel
theorem dX7_goneInAll_17 : decode cX7_goneInAll 17 = .ok (.istore_n 1, 1) := by decide +kernel
theorem dX7_goneInAll_18 : decode cX7_goneInAll 18 = .ok (.iinc 2 1, 3) := by decide +kernel
theorem dX7_goneInAll_21 : decode cX7_goneInAll 21 = .ok (.goto (-17), 3) := by decide +kernel
theorem dX7_goneInAll_24 : decode cX7_goneInAll 24 = .ok (.iload_n 1, 1) := by decide +kernel
theorem dX7_goneInAll_25 : decode cX7_goneInAll 25 = .ok (.ireturn, 1) := by decide +kernel
theorem dX7_tookInAll_0 : decode cX7_tookInAll 0 = .ok (.iconst 0, 1) := by decide +kernel
theorem dX7_tookInAll_1 : decode cX7_tookInAll 1 = .ok (.istore_n 1, 1) := by decide +kernel
theorem dX7_tookInAll_2 : decode cX7_tookInAll 2 = .ok (.iconst 0, 1) := by decide +kernel
theorem dX7_tookInAll_3 : decode cX7_tookInAll 3 = .ok (.istore_n 2, 1) := by decide +kernel
theorem dX7_tookInAll_4 : decode cX7_tookInAll 4 = .ok (.iload_n 2, 1) := by decide +kernel
theorem dX7_tookInAll_5 : decode cX7_tookInAll 5 = .ok (.iconst 5, 1) := by decide +kernel
theorem dX7_tookInAll_6 : decode cX7_tookInAll 6 = .ok (.if_icmp .ge 18, 3) := by decide +kernel
theorem dX7_tookInAll_9 : decode cX7_tookInAll 9 = .ok (.iload_n 1, 1) := by decide +kernel
theorem dX7_tookInAll_10 : decode cX7_tookInAll 10 = .ok (.aload_n 0, 1) := by decide +kernel
theorem dX7_tookInAll_11 : decode cX7_tookInAll 11 = .ok (.getfield 27, 3) := by decide +kernel
theorem dX7_tookInAll_14 : decode cX7_tookInAll 14 = .ok (.iload_n 2, 1) := by decide +kernel
theorem dX7_tookInAll_15 : decode cX7_tookInAll 15 = .ok (.iaload, 1) := by decide +kernel
theorem dX7_tookInAll_16 : decode cX7_tookInAll 16 = .ok (.iadd, 1) := by decide +kernel
theorem dX7_tookInAll_17 : decode cX7_tookInAll 17 = .ok (.istore_n 1, 1) := by decide +kernel
theorem dX7_tookInAll_18 : decode cX7_tookInAll 18 = .ok (.iinc 2 1, 3) := by decide +kernel
theorem dX7_tookInAll_21 : decode cX7_tookInAll 21 = .ok (.goto (-17), 3) := by decide +kernel
theorem dX7_tookInAll_24 : decode cX7_tookInAll 24 = .ok (.iload_n 1, 1) := by decide +kernel
theorem dX7_tookInAll_25 : decode cX7_tookInAll 25 = .ok (.ireturn, 1) := by decide +kernel
theorem dX8_init_0 : decode cX8_init 0 = .ok (.aload_n 0, 1) := by decide +kernel
theorem dX8_init_1 : decode cX8_init 1 = .ok (.invokespecial 3, 3) := by decide +kernel
theorem dX8_init_4 : decode cX8_init 4 = .ok (.aload_n 0, 1) := by decide +kernel
theorem dX8_init_5 : decode cX8_init 5 = .ok (.sipush 600, 3) := by decide +kernel
theorem dX8_init_8 : decode cX8_init 8 = .ok (.newarray .int, 2) := by decide +kernel
theorem dX8_init_10 : decode cX8_init 10 = .ok (.putfield 9, 3) := by decide +kernel
theorem dX8_init_13 : decode cX8_init 13 = .ok (.aload_n 0, 1) := by decide +kernel
theorem dX8_init_14 : decode cX8_init 14 = .ok (.iconst (-1), 1) := by decide +kernel
theorem dX8_init_15 : decode cX8_init 15 = .ok (.putfield 15, 3) := by decide +kernel
theorem dX8_init_18 : decode cX8_init 18 = .ok (.return_, 1) := by decide +kernel
theorem dX8_hasRoomForFive_0 : decode cX8_hasRoomForFive 0 = .ok (.aload_n 0, 1) := by decide +kernel
theorem dX8_hasRoomForFive_1 : decode cX8_hasRoomForFive 1 = .ok (.getfield 19, 3) := by decide +kernel
theorem dX8_hasRoomForFive_4 : decode cX8_hasRoomForFive 4 = .ok (.bipush 20, 2) := by decide +kernel
theorem dX8_hasRoomForFive_6 : decode cX8_hasRoomForFive 6 = .ok (.iadd, 1) := by decide +kernel
theorem dX8_hasRoomForFive_7 : decode cX8_hasRoomForFive 7 = .ok (.sipush 600, 3) := by decide +kernel
theorem dX8_hasRoomForFive_10 : decode cX8_hasRoomForFive 10 = .ok (.if_icmp .gt 7, 3) := by decide +kernel
theorem dX8_hasRoomForFive_13 : decode cX8_hasRoomForFive 13 = .ok (.iconst 1, 1) := by decide +kernel
theorem dX8_hasRoomForFive_14 : decode cX8_hasRoomForFive 14 = .ok (.goto 4, 3) := by decide +kernel
theorem dX8_hasRoomForFive_17 : decode cX8_hasRoomForFive 17 = .ok (.iconst 0, 1) := by decide +kernel
theorem dX8_hasRoomForFive_18 : decode cX8_hasRoomForFive 18 = .ok (.ireturn, 1) := by decide +kernel
theorem dX8_put_0 : decode cX8_put 0 = .ok (.bipush 24, 2) := by decide +kernel
theorem dX8_put_2 : decode cX8_put 2 = .ok (.istore_n 2, 1) := by decide +kernel
theorem dX8_put_3 : decode cX8_put 3 = .ok (.iload_n 2, 1) := by decide +kernel
theorem dX8_put_4 : decode cX8_put 4 = .ok (.ifCond .lt 45, 3) := by decide +kernel
theorem dX8_put_7 : decode cX8_put 7 = .ok (.aload_n 0, 1) := by decide +kernel
theorem dX8_put_8 : decode cX8_put 8 = .ok (.getfield 19, 3) := by decide +kernel
theorem dX8_put_11 : decode cX8_put 11 = .ok (.sipush 600, 3) := by decide +kernel
theorem dX8_put_14 : decode cX8_put 14 = .ok (.if_icmp .ge 29, 3) := by decide +kernel
theorem dX8_put_17 : decode cX8_put 17 = .ok (.aload_n 0, 1) := by decide +kernel
theorem dX8_put_18 : decode cX8_put 18 = .ok (.getfield 9, 3) := by decide +kernel
theorem dX8_put_21 : decode cX8_put 21 = .ok (.aload_n 0, 1) := by decide +kernel
theorem dX8_put_22 : decode cX8_put 22 = .ok (.getfield 19, 3) := by decide +kernel
theorem dX8_put_25 : decode cX8_put 25 = .ok (.iload_n 1, 1) := by decide +kernel
theorem dX8_put_26 : decode cX8_put 26 = .ok (.iload_n 2, 1) := by decide +kernel
theorem dX8_put_27 : decode cX8_put 27 = .ok (.iushr, 1) := by decide +kernel
theorem dX8_put_28 : decode cX8_put 28 = .ok (.sipush 255, 3) := by decide +kernel
theorem dX8_put_31 : decode cX8_put 31 = .ok (.iand, 1) := by decide +kernel
theorem dX8_put_32 : decode cX8_put 32 = .ok (.iastore, 1) := by decide +kernel
theorem dX8_put_33 : decode cX8_put 33 = .ok (.aload_n 0, 1) := by decide +kernel
theorem dX8_put_34 : decode cX8_put 34 = .ok (.dup, 1) := by decide +kernel
theorem dX8_put_35 : decode cX8_put 35 = .ok (.getfield 19, 3) := by decide +kernel
theorem dX8_put_38 : decode cX8_put 38 = .ok (.iconst 1, 1) := by decide +kernel
theorem dX8_put_39 : decode cX8_put 39 = .ok (.iadd, 1) := by decide +kernel
theorem dX8_put_40 : decode cX8_put 40 = .ok (.putfield 19, 3) := by decide +kernel
theorem dX8_put_43 : decode cX8_put 43 = .ok (.iinc 2 (-8), 3) := by decide +kernel
theorem dX8_put_46 : decode cX8_put 46 = .ok (.goto (-43), 3) := by decide +kernel
theorem dX8_put_49 : decode cX8_put 49 = .ok (.return_, 1) := by decide +kernel
theorem dX8_open_0 : decode cX8_open 0 = .ok (.aload_n 0, 1) := by decide +kernel
theorem dX8_open_1 : decode cX8_open 1 = .ok (.iconst 0, 1) := by decide +kernel
theorem dX8_open_2 : decode cX8_open 2 = .ok (.iload_n 1, 1) := by decide +kernel
theorem dX8_open_3 : decode cX8_open 3 = .ok (.aload_n 0, 1) := by decide +kernel
theorem dX8_open_4 : decode cX8_open 4 = .ok (.getfield 19, 3) := by decide +kernel
theorem dX8_open_7 : decode cX8_open 7 = .ok (.invokestatic 22, 3) := by decide +kernel
theorem dX8_open_10 : decode cX8_open 10 = .ok (.invokestatic 28, 3) := by decide +kernel
theorem dX8_open_13 : decode cX8_open 13 = .ok (.putfield 31, 3) := by decide +kernel
theorem dX8_open_16 : decode cX8_open 16 = .ok (.aload_n 0, 1) := by decide +kernel
theorem dX8_open_17 : decode cX8_open 17 = .ok (.iconst 0, 1) := by decide +kernel
theorem dX8_open_18 : decode cX8_open 18 = .ok (.putfield 34, 3) := by decide +kernel
theorem dX8_open_21 : decode cX8_open 21 = .ok (.aload_n 0, 1) := by decide +kernel
theorem dX8_open_22 : decode cX8_open 22 = .ok (.iconst 0, 1) := by decide +kernel
theorem dX8_open_23 : decode cX8_open 23 = .ok (.putfield 37, 3) := by decide +kernel
theorem dX8_open_26 : decode cX8_open 26 = .ok (.aload_n 0, 1) := by decide +kernel
theorem dX8_open_27 : decode cX8_open 27 = .ok (.iconst (-1), 1) := by decide +kernel
theorem dX8_open_28 : decode cX8_open 28 = .ok (.putfield 15, 3) := by decide +kernel
theorem dX8_open_31 : decode cX8_open 31 = .ok (.return_, 1) := by decide +kernel
theorem dX8_drop_0 : decode cX8_drop 0 = .ok (.aload_n 0, 1) := by decide +kernel
theorem dX8_drop_1 : decode cX8_drop 1 = .ok (.iconst 0, 1) := by decide +kernel
theorem dX8_drop_2 : decode cX8_drop 2 = .ok (.putfield 19, 3) := by decide +kernel
theorem dX8_drop_5 : decode cX8_drop 5 = .ok (.return_, 1) := by decide +kernel
theorem dX8_refuse_0 : decode cX8_refuse 0 = .ok (.aload_n 0, 1) := by decide +kernel
theorem dX8_refuse_1 : decode cX8_refuse 1 = .ok (.iload_n 1, 1) := by decide +kernel
theorem dX8_refuse_2 : decode cX8_refuse 2 = .ok (.putfield 37, 3) := by decide +kernel
theorem dX8_refuse_5 : decode cX8_refuse 5 = .ok (.aload_n 0, 1) := by decide +kernel
theorem dX8_refuse_6 : decode cX8_refuse 6 = .ok (.iload_n 2, 1) := by decide +kernel
theorem dX8_refuse_7 : decode cX8_refuse 7 = .ok (.putfield 15, 3) := by decide +kernel
theorem dX8_refuse_10 : decode cX8_refuse 10 = .ok (.iconst 0, 1) := by decide +kernel
theorem dX8_refuse_11 : decode cX8_refuse 11 = .ok (.ireturn, 1) := by decide +kernel
theorem dX8_nextSign_0 : decode cX8_nextSign 0 = .ok (.aload_n 0, 1) := by decide +kernel
theorem dX8_nextSign_1 : decode cX8_nextSign 1 = .ok (.getfield 34, 3) := by decide +kernel
theorem dX8_nextSign_4 : decode cX8_nextSign 4 = .ok (.aload_n 0, 1) := by decide +kernel
theorem dX8_nextSign_5 : decode cX8_nextSign 5 = .ok (.getfield 31, 3) := by decide +kernel
theorem dX8_nextSign_8 : decode cX8_nextSign 8 = .ok (.if_icmp .ge 30, 3) := by decide +kernel
theorem dX8_nextSign_11 : decode cX8_nextSign 11 = .ok (.aload_n 0, 1) := by decide +kernel
theorem dX8_nextSign_12 : decode cX8_nextSign 12 = .ok (.getfield 9, 3) := by decide +kernel
theorem dX8_nextSign_15 : decode cX8_nextSign 15 = .ok (.aload_n 0, 1) := by decide +kernel
theorem dX8_nextSign_16 : decode cX8_nextSign 16 = .ok (.getfield 34, 3) := by decide +kernel
theorem dX8_nextSign_19 : decode cX8_nextSign 19 = .ok (.iaload, 1) := by decide +kernel
theorem dX8_nextSign_20 : decode cX8_nextSign 20 = .ok (.bipush 32, 2) := by decide +kernel
theorem dX8_nextSign_22 : decode cX8_nextSign 22 = .ok (.if_icmp .ne 16, 3) := by decide +kernel
theorem dX8_nextSign_25 : decode cX8_nextSign 25 = .ok (.aload_n 0, 1) := by decide +kernel
theorem dX8_nextSign_26 : decode cX8_nextSign 26 = .ok (.dup, 1) := by decide +kernel
theorem dX8_nextSign_27 : decode cX8_nextSign 27 = .ok (.getfield 34, 3) := by decide +kernel
theorem dX8_nextSign_30 : decode cX8_nextSign 30 = .ok (.iconst 1, 1) := by decide +kernel
theorem dX8_nextSign_31 : decode cX8_nextSign 31 = .ok (.iadd, 1) := by decide +kernel
theorem dX8_nextSign_32 : decode cX8_nextSign 32 = .ok (.putfield 34, 3) := by decide +kernel
theorem dX8_nextSign_35 : decode cX8_nextSign 35 = .ok (.goto (-35), 3) := by decide +kernel
theorem dX8_nextSign_38 : decode cX8_nextSign 38 = .ok (.aload_n 0, 1) := by decide +kernel
theorem dX8_nextSign_39 : decode cX8_nextSign 39 = .ok (.getfield 34, 3) := by decide +kernel
theorem dX8_nextSign_42 : decode cX8_nextSign 42 = .ok (.aload_n 0, 1) := by decide +kernel
theorem dX8_nextSign_43 : decode cX8_nextSign 43 = .ok (.getfield 31, 3) := by decide +kernel
theorem dX8_nextSign_46 : decode cX8_nextSign 46 = .ok (.if_icmp .ge 15, 3) := by decide +kernel
theorem dX8_nextSign_49 : decode cX8_nextSign 49 = .ok (.aload_n 0, 1) := by decide +kernel
theorem dX8_nextSign_50 : decode cX8_nextSign 50 = .ok (.getfield 9, 3) := by decide +kernel
theorem dX8_nextSign_53 : decode cX8_nextSign 53 = .ok (.aload_n 0, 1) := by decide +kernel
theorem dX8_nextSign_54 : decode cX8_nextSign 54 = .ok (.getfield 34, 3) := by decide +kernel
theorem dX8_nextSign_57 : decode cX8_nextSign 57 = .ok (.iaload, 1) := by decide +kernel
theorem dX8_nextSign_58 : decode cX8_nextSign 58 = .ok (.goto 4, 3) := by decide +kernel
theorem dX8_nextSign_61 : decode cX8_nextSign 61 = .ok (.iconst (-1), 1) := by decide +kernel
theorem dX8_nextSign_62 : decode cX8_nextSign 62 = .ok (.ireturn, 1) := by decide +kernel
theorem dX8_takeSign_0 : decode cX8_takeSign 0 = .ok (.aload_n 0, 1) := by decide +kernel
theorem dX8_takeSign_1 : decode cX8_takeSign 1 = .ok (.invokevirtual 40, 3) := by decide +kernel
theorem dX8_takeSign_4 : decode cX8_takeSign 4 = .ok (.iload_n 1, 1) := by decide +kernel
theorem dX8_takeSign_5 : decode cX8_takeSign 5 = .ok (.if_icmp .eq 13, 3) := by decide +kernel
theorem dX8_takeSign_8 : decode cX8_takeSign 8 = .ok (.aload_n 0, 1) := by decide +kernel
theorem dX8_takeSign_9 : decode cX8_takeSign 9 = .ok (.iconst 1, 1) := by decide +kernel
theorem dX8_takeSign_10 : decode cX8_takeSign 10 = .ok (.aload_n 0, 1) := by decide +kernel
theorem dX8_takeSign_11 : decode cX8_takeSign 11 = .ok (.getfield 34, 3) := by decide +kernel
theorem dX8_takeSign_14 : decode cX8_takeSign 14 = .ok (.invokevirtual 44, 3) := by decide +kernel
theorem dX8_takeSign_17 : decode cX8_takeSign 17 = .ok (.ireturn, 1) := by decide +kernel
theorem dX8_takeSign_18 : decode cX8_takeSign 18 = .ok (.aload_n 0, 1) := by decide +kernel
theorem dX8_takeSign_19 : decode cX8_takeSign 19 = .ok (.dup, 1) := by decide +kernel
theorem dX8_takeSign_20 : decode cX8_takeSign 20 = .ok (.getfield 34, 3) := by decide +kernel
theorem dX8_takeSign_23 : decode cX8_takeSign 23 = .ok (.iconst 1, 1) := by decide +kernel
theorem dX8_takeSign_24 : decode cX8_takeSign 24 = .ok (.iadd, 1) := by decide +kernel
theorem dX8_takeSign_25 : decode cX8_takeSign 25 = .ok (.putfield 34, 3) := by decide +kernel
theorem dX8_takeSign_28 : decode cX8_takeSign 28 = .ok (.iconst 1, 1) := by decide +kernel
theorem dX8_takeSign_29 : decode cX8_takeSign 29 = .ok (.ireturn, 1) := by decide +kernel
theorem dX8_isAtEnd_0 : decode cX8_isAtEnd 0 = .ok (.aload_n 0, 1) := by decide +kernel
theorem dX8_isAtEnd_1 : decode cX8_isAtEnd 1 = .ok (.invokevirtual 40, 3) := by decide +kernel
theorem dX8_isAtEnd_4 : decode cX8_isAtEnd 4 = .ok (.iconst (-1), 1) := by decide +kernel
theorem dX8_isAtEnd_5 : decode cX8_isAtEnd 5 = .ok (.if_icmp .ne 7, 3) := by decide +kernel
theorem dX8_isAtEnd_8 : decode cX8_isAtEnd 8 = .ok (.iconst 1, 1) := by decide +kernel
theorem dX8_isAtEnd_9 : decode cX8_isAtEnd 9 = .ok (.goto 4, 3) := by decide +kernel
theorem dX8_isAtEnd_12 : decode cX8_isAtEnd 12 = .ok (.iconst 0, 1) := by decide +kernel
theorem dX8_isAtEnd_13 : decode cX8_isAtEnd 13 = .ok (.ireturn, 1) := by decide +kernel
theorem dX8_readEnd_0 : decode cX8_readEnd 0 = .ok (.aload_n 0, 1) := by decide +kernel
theorem dX8_readEnd_1 : decode cX8_readEnd 1 = .ok (.invokevirtual 48, 3) := by decide +kernel
theorem dX8_readEnd_4 : decode cX8_readEnd 4 = .ok (.ifCond .ne 15, 3) := by decide +kernel
theorem dX8_readEnd_7 : decode cX8_readEnd 7 = .ok (.aload_n 0, 1) := by decide +kernel
theorem dX8_readEnd_8 : decode cX8_readEnd 8 = .ok (.iconst 1, 1) := by decide +kernel
theorem dX8_readEnd_9 : decode cX8_readEnd 9 = .ok (.aload_n 0, 1) := by decide +kernel
theorem dX8_readEnd_10 : decode cX8_readEnd 10 = .ok (.getfield 34, 3) := by decide +kernel
theorem dX8_readEnd_13 : decode cX8_readEnd 13 = .ok (.invokevirtual 44, 3) := by decide +kernel
theorem dX8_readEnd_16 : decode cX8_readEnd 16 = .ok (.ifCond .eq 7, 3) := by decide +kernel
theorem dX8_readEnd_19 : decode cX8_readEnd 19 = .ok (.iconst 1, 1) := by decide +kernel
theorem dX8_readEnd_20 : decode cX8_readEnd 20 = .ok (.goto 4, 3) := by decide +kernel
theorem dX8_readEnd_23 : decode cX8_readEnd 23 = .ok (.iconst 0, 1) := by decide +kernel
theorem dX8_readEnd_24 : decode cX8_readEnd 24 = .ok (.ireturn, 1) := by decide +kernel
theorem dX8_isDigit_0 : decode cX8_isDigit 0 = .ok (.iload_n 0, 1) := by decide +kernel
theorem dX8_isDigit_1 : decode cX8_isDigit 1 = .ok (.bipush 48, 2) := by decide +kernel
theorem dX8_isDigit_3 : decode cX8_isDigit 3 = .ok (.if_icmp .lt 13, 3) := by decide +kernel
theorem dX8_isDigit_6 : decode cX8_isDigit 6 = .ok (.iload_n 0, 1) := by decide +kernel
theorem dX8_isDigit_7 : decode cX8_isDigit 7 = .ok (.bipush 57, 2) := by decide +kernel
theorem dX8_isDigit_9 : decode cX8_isDigit 9 = .ok (.if_icmp .gt 7, 3) := by decide +kernel
theorem dX8_isDigit_12 : decode cX8_isDigit 12 = .ok (.iconst 1, 1) := by decide +kernel
theorem dX8_isDigit_13 : decode cX8_isDigit 13 = .ok (.goto 4, 3) := by decide +kernel
theorem dX8_isDigit_16 : decode cX8_isDigit 16 = .ok (.iconst 0, 1) := by decide +kernel
theorem dX8_isDigit_17 : decode cX8_isDigit 17 = .ok (.ireturn, 1) := by decide +kernel
theorem dX8_isLetter_0 : decode cX8_isLetter 0 = .ok (.iload_n 0, 1) := by decide +kernel
theorem dX8_isLetter_1 : decode cX8_isLetter 1 = .ok (.bipush 97, 2) := by decide +kernel
theorem dX8_isLetter_3 : decode cX8_isLetter 3 = .ok (.if_icmp .lt 13, 3) := by decide +kernel
theorem dX8_isLetter_6 : decode cX8_isLetter 6 = .ok (.iload_n 0, 1) := by decide +kernel
theorem dX8_isLetter_7 : decode cX8_isLetter 7 = .ok (.bipush 122, 2) := by decide +kernel
theorem dX8_isLetter_9 : decode cX8_isLetter 9 = .ok (.if_icmp .gt 7, 3) := by decide +kernel
theorem dX8_isLetter_12 : decode cX8_isLetter 12 = .ok (.iconst 1, 1) := by decide +kernel
theorem dX8_isLetter_13 : decode cX8_isLetter 13 = .ok (.goto 4, 3) := by decide +kernel
theorem dX8_isLetter_16 : decode cX8_isLetter 16 = .ok (.iconst 0, 1) := by decide +kernel
theorem dX8_isLetter_17 : decode cX8_isLetter 17 = .ok (.ireturn, 1) := by decide +kernel
theorem dX8_readNumber_0 : decode cX8_readNumber 0 = .ok (.aload_n 0, 1) := by decide +kernel
theorem dX8_readNumber_1 : decode cX8_readNumber 1 = .ok (.invokevirtual 40, 3) := by decide +kernel
theorem dX8_readNumber_4 : decode cX8_readNumber 4 = .ok (.pop, 1) := by decide +kernel
theorem dX8_readNumber_5 : decode cX8_readNumber 5 = .ok (.aload_n 0, 1) := by decide +kernel
theorem dX8_readNumber_6 : decode cX8_readNumber 6 = .ok (.aload_n 0, 1) := by decide +kernel
theorem dX8_readNumber_7 : decode cX8_readNumber 7 = .ok (.getfield 34, 3) := by decide +kernel
theorem dX8_readNumber_10 : decode cX8_readNumber 10 = .ok (.putfield 52, 3) := by decide +kernel
theorem dX8_readNumber_13 : decode cX8_readNumber 13 = .ok (.iconst 0, 1) := by decide +kernel
theorem dX8_readNumber_14 : decode cX8_readNumber 14 = .ok (.istore_n 2, 1) := by decide +kernel
theorem dX8_readNumber_15 : decode cX8_readNumber 15 = .ok (.aload_n 0, 1) := by decide +kernel
theorem dX8_readNumber_16 : decode cX8_readNumber 16 = .ok (.getfield 34, 3) := by decide +kernel
theorem dX8_readNumber_19 : decode cX8_readNumber 19 = .ok (.aload_n 0, 1) := by decide +kernel
theorem dX8_readNumber_20 : decode cX8_readNumber 20 = .ok (.getfield 31, 3) := by decide +kernel
theorem dX8_readNumber_23 : decode cX8_readNumber 23 = .ok (.if_icmp .ge 54, 3) := by decide +kernel
theorem dX8_readNumber_26 : decode cX8_readNumber 26 = .ok (.aload_n 0, 1) := by decide +kernel
theorem dX8_readNumber_27 : decode cX8_readNumber 27 = .ok (.getfield 9, 3) := by decide +kernel
theorem dX8_readNumber_30 : decode cX8_readNumber 30 = .ok (.aload_n 0, 1) := by decide +kernel
theorem dX8_readNumber_31 : decode cX8_readNumber 31 = .ok (.getfield 34, 3) := by decide +kernel
theorem dX8_readNumber_34 : decode cX8_readNumber 34 = .ok (.iaload, 1) := by decide +kernel
theorem dX8_readNumber_35 : decode cX8_readNumber 35 = .ok (.invokestatic 55, 3) := by decide +kernel
theorem dX8_readNumber_38 : decode cX8_readNumber 38 = .ok (.ifCond .eq 39, 3) := by decide +kernel
theorem dX8_readNumber_41 : decode cX8_readNumber 41 = .ok (.iload_n 2, 1) := by decide +kernel
theorem dX8_readNumber_42 : decode cX8_readNumber 42 = .ok (.bipush 10, 2) := by decide +kernel
theorem dX8_readNumber_44 : decode cX8_readNumber 44 = .ok (.imul, 1) := by decide +kernel
theorem dX8_readNumber_45 : decode cX8_readNumber 45 = .ok (.aload_n 0, 1) := by decide +kernel
theorem dX8_readNumber_46 : decode cX8_readNumber 46 = .ok (.getfield 9, 3) := by decide +kernel
theorem dX8_readNumber_49 : decode cX8_readNumber 49 = .ok (.aload_n 0, 1) := by decide +kernel
theorem dX8_readNumber_50 : decode cX8_readNumber 50 = .ok (.getfield 34, 3) := by decide +kernel
theorem dX8_readNumber_53 : decode cX8_readNumber 53 = .ok (.iaload, 1) := by decide +kernel
theorem dX8_readNumber_54 : decode cX8_readNumber 54 = .ok (.iadd, 1) := by decide +kernel
theorem dX8_readNumber_55 : decode cX8_readNumber 55 = .ok (.bipush 48, 2) := by decide +kernel
theorem dX8_readNumber_57 : decode cX8_readNumber 57 = .ok (.isub, 1) := by decide +kernel
theorem dX8_readNumber_58 : decode cX8_readNumber 58 = .ok (.ldc 59, 2) := by decide +kernel
theorem dX8_readNumber_60 : decode cX8_readNumber 60 = .ok (.invokestatic 22, 3) := by decide +kernel
theorem dX8_readNumber_63 : decode cX8_readNumber 63 = .ok (.istore_n 2, 1) := by decide +kernel
theorem dX8_readNumber_64 : decode cX8_readNumber 64 = .ok (.aload_n 0, 1) := by decide +kernel
theorem dX8_readNumber_65 : decode cX8_readNumber 65 = .ok (.dup, 1) := by decide +kernel
theorem dX8_readNumber_66 : decode cX8_readNumber 66 = .ok (.getfield 34, 3) := by decide +kernel
theorem dX8_readNumber_69 : decode cX8_readNumber 69 = .ok (.iconst 1, 1) := by decide +kernel
theorem dX8_readNumber_70 : decode cX8_readNumber 70 = .ok (.iadd, 1) := by decide +kernel
theorem dX8_readNumber_71 : decode cX8_readNumber 71 = .ok (.putfield 34, 3) := by decide +kernel
theorem dX8_readNumber_74 : decode cX8_readNumber 74 = .ok (.goto (-59), 3) := by decide +kernel
theorem dX8_readNumber_77 : decode cX8_readNumber 77 = .ok (.aload_n 0, 1) := by decide +kernel
theorem dX8_readNumber_78 : decode cX8_readNumber 78 = .ok (.getfield 34, 3) := by decide +kernel
theorem dX8_readNumber_81 : decode cX8_readNumber 81 = .ok (.aload_n 0, 1) := by decide +kernel
theorem dX8_readNumber_82 : decode cX8_readNumber 82 = .ok (.getfield 52, 3) := by decide +kernel
theorem dX8_readNumber_85 : decode cX8_readNumber 85 = .ok (.if_icmp .ne 15, 3) := by decide +kernel
theorem dX8_readNumber_88 : decode cX8_readNumber 88 = .ok (.aload_n 0, 1) := by decide +kernel
theorem dX8_readNumber_89 : decode cX8_readNumber 89 = .ok (.iconst 1, 1) := by decide +kernel
theorem dX8_readNumber_90 : decode cX8_readNumber 90 = .ok (.aload_n 0, 1) := by decide +kernel
theorem dX8_readNumber_91 : decode cX8_readNumber 91 = .ok (.getfield 34, 3) := by decide +kernel
theorem dX8_readNumber_94 : decode cX8_readNumber 94 = .ok (.invokevirtual 44, 3) := by decide +kernel
theorem dX8_readNumber_97 : decode cX8_readNumber 97 = .ok (.pop, 1) := by decide +kernel
theorem dX8_readNumber_98 : decode cX8_readNumber 98 = .ok (.iconst (-1), 1) := by decide +kernel
theorem dX8_readNumber_99 : decode cX8_readNumber 99 = .ok (.ireturn, 1) := by decide +kernel
theorem dX8_readNumber_100 : decode cX8_readNumber 100 = .ok (.iload_n 2, 1) := by decide +kernel
theorem dX8_readNumber_101 : decode cX8_readNumber 101 = .ok (.iload_n 1, 1) := by decide +kernel
theorem dX8_readNumber_102 : decode cX8_readNumber 102 = .ok (.if_icmp .le 15, 3) := by decide +kernel
theorem dX8_readNumber_105 : decode cX8_readNumber 105 = .ok (.aload_n 0, 1) := by decide +kernel
theorem dX8_readNumber_106 : decode cX8_readNumber 106 = .ok (.iconst 2, 1) := by decide +kernel
theorem dX8_readNumber_107 : decode cX8_readNumber 107 = .ok (.aload_n 0, 1) := by decide +kernel
theorem dX8_readNumber_108 : decode cX8_readNumber 108 = .ok (.getfield 52, 3) := by decide +kernel
theorem dX8_readNumber_111 : decode cX8_readNumber 111 = .ok (.invokevirtual 44, 3) := by decide +kernel
theorem dX8_readNumber_114 : decode cX8_readNumber 114 = .ok (.pop, 1) := by decide +kernel
theorem dX8_readNumber_115 : decode cX8_readNumber 115 = .ok (.iconst (-1), 1) := by decide +kernel
theorem dX8_readNumber_116 : decode cX8_readNumber 116 = .ok (.ireturn, 1) := by decide +kernel
theorem dX8_readNumber_117 : decode cX8_readNumber 117 = .ok (.iload_n 2, 1) := by decide +kernel
theorem dX8_readNumber_118 : decode cX8_readNumber 118 = .ok (.ireturn, 1) := by decide +kernel
theorem dX8_readWord_0 : decode cX8_readWord 0 = .ok (.aload_n 0, 1) := by decide +kernel
theorem dX8_readWord_1 : decode cX8_readWord 1 = .ok (.invokevirtual 40, 3) := by decide +kernel
theorem dX8_readWord_4 : decode cX8_readWord 4 = .ok (.pop, 1) := by decide +kernel
theorem dX8_readWord_5 : decode cX8_readWord 5 = .ok (.aload_n 0, 1) := by decide +kernel
theorem dX8_readWord_6 : decode cX8_readWord 6 = .ok (.aload_n 0, 1) := by decide +kernel
theorem dX8_readWord_7 : decode cX8_readWord 7 = .ok (.getfield 34, 3) := by decide +kernel
theorem dX8_readWord_10 : decode cX8_readWord 10 = .ok (.putfield 60, 3) := by decide +kernel
theorem dX8_readWord_13 : decode cX8_readWord 13 = .ok (.aload_n 0, 1) := by decide +kernel
theorem dX8_readWord_14 : decode cX8_readWord 14 = .ok (.getfield 34, 3) := by decide +kernel
theorem dX8_readWord_17 : decode cX8_readWord 17 = .ok (.aload_n 0, 1) := by decide +kernel
theorem dX8_readWord_18 : decode cX8_readWord 18 = .ok (.getfield 31, 3) := by decide +kernel
theorem dX8_readWord_21 : decode cX8_readWord 21 = .ok (.if_icmp .ge 31, 3) := by decide +kernel
theorem dX8_readWord_24 : decode cX8_readWord 24 = .ok (.aload_n 0, 1) := by decide +kernel
theorem dX8_readWord_25 : decode cX8_readWord 25 = .ok (.getfield 9, 3) := by decide +kernel
theorem dX8_readWord_28 : decode cX8_readWord 28 = .ok (.aload_n 0, 1) := by decide +kernel
theorem dX8_readWord_29 : decode cX8_readWord 29 = .ok (.getfield 34, 3) := by decide +kernel
theorem dX8_readWord_32 : decode cX8_readWord 32 = .ok (.iaload, 1) := by decide +kernel
theorem dX8_readWord_33 : decode cX8_readWord 33 = .ok (.invokestatic 63, 3) := by decide +kernel
theorem dX8_readWord_36 : decode cX8_readWord 36 = .ok (.ifCond .eq 16, 3) := by decide +kernel
theorem dX8_readWord_39 : decode cX8_readWord 39 = .ok (.aload_n 0, 1) := by decide +kernel
theorem dX8_readWord_40 : decode cX8_readWord 40 = .ok (.dup, 1) := by decide +kernel
theorem dX8_readWord_41 : decode cX8_readWord 41 = .ok (.getfield 34, 3) := by decide +kernel
theorem dX8_readWord_44 : decode cX8_readWord 44 = .ok (.iconst 1, 1) := by decide +kernel
theorem dX8_readWord_45 : decode cX8_readWord 45 = .ok (.iadd, 1) := by decide +kernel
theorem dX8_readWord_46 : decode cX8_readWord 46 = .ok (.putfield 34, 3) := by decide +kernel
theorem dX8_readWord_49 : decode cX8_readWord 49 = .ok (.goto (-36), 3) := by decide +kernel
theorem dX8_readWord_52 : decode cX8_readWord 52 = .ok (.return_, 1) := by decide +kernel
theorem dX8_isWord_0 : decode cX8_isWord 0 = .ok (.aload_n 0, 1) := by decide +kernel
theorem dX8_isWord_1 : decode cX8_isWord 1 = .ok (.getfield 34, 3) := by decide +kernel
theorem dX8_isWord_4 : decode cX8_isWord 4 = .ok (.aload_n 0, 1) := by decide +kernel
theorem dX8_isWord_5 : decode cX8_isWord 5 = .ok (.getfield 60, 3) := by decide +kernel
theorem dX8_isWord_8 : decode cX8_isWord 8 = .ok (.isub, 1) := by decide +kernel
theorem dX8_isWord_9 : decode cX8_isWord 9 = .ok (.aload_n 1, 1) := by decide +kernel
theorem dX8_isWord_10 : decode cX8_isWord 10 = .ok (.invokevirtual 66, 3) := by decide +kernel
theorem dX8_isWord_13 : decode cX8_isWord 13 = .ok (.if_icmp .eq 5, 3) := by decide +kernel
theorem dX8_isWord_16 : decode cX8_isWord 16 = .ok (.iconst 0, 1) := by decide +kernel
theorem dX8_isWord_17 : decode cX8_isWord 17 = .ok (.ireturn, 1) := by decide +kernel
theorem dX8_isWord_18 : decode cX8_isWord 18 = .ok (.iconst 0, 1) := by decide +kernel
theorem dX8_isWord_19 : decode cX8_isWord 19 = .ok (.istore_n 2, 1) := by decide +kernel
theorem dX8_isWord_20 : decode cX8_isWord 20 = .ok (.iload_n 2, 1) := by decide +kernel
theorem dX8_isWord_21 : decode cX8_isWord 21 = .ok (.aload_n 1, 1) := by decide +kernel
theorem dX8_isWord_22 : decode cX8_isWord 22 = .ok (.invokevirtual 66, 3) := by decide +kernel
theorem dX8_isWord_25 : decode cX8_isWord 25 = .ok (.if_icmp .ge 30, 3) := by decide +kernel
theorem dX8_isWord_28 : decode cX8_isWord 28 = .ok (.aload_n 0, 1) := by decide +kernel
theorem dX8_isWord_29 : decode cX8_isWord 29 = .ok (.getfield 9, 3) := by decide +kernel
theorem dX8_isWord_32 : decode cX8_isWord 32 = .ok (.aload_n 0, 1) := by decide +kernel
theorem dX8_isWord_33 : decode cX8_isWord 33 = .ok (.getfield 60, 3) := by decide +kernel
theorem dX8_isWord_36 : decode cX8_isWord 36 = .ok (.iload_n 2, 1) := by decide +kernel
theorem dX8_isWord_37 : decode cX8_isWord 37 = .ok (.iadd, 1) := by decide +kernel
theorem dX8_isWord_38 : decode cX8_isWord 38 = .ok (.iaload, 1) := by decide +kernel
theorem dX8_isWord_39 : decode cX8_isWord 39 = .ok (.aload_n 1, 1) := by decide +kernel
theorem dX8_isWord_40 : decode cX8_isWord 40 = .ok (.iload_n 2, 1) := by decide +kernel
theorem dX8_isWord_41 : decode cX8_isWord 41 = .ok (.invokevirtual 71, 3) := by decide +kernel
theorem dX8_isWord_44 : decode cX8_isWord 44 = .ok (.if_icmp .eq 5, 3) := by decide +kernel
theorem dX8_isWord_47 : decode cX8_isWord 47 = .ok (.iconst 0, 1) := by decide +kernel
theorem dX8_isWord_48 : decode cX8_isWord 48 = .ok (.ireturn, 1) := by decide +kernel
theorem dX8_isWord_49 : decode cX8_isWord 49 = .ok (.iinc 2 1, 3) := by decide +kernel
theorem dX8_isWord_52 : decode cX8_isWord 52 = .ok (.goto (-32), 3) := by decide +kernel
theorem dX8_isWord_55 : decode cX8_isWord 55 = .ok (.iconst 1, 1) := by decide +kernel
theorem dX8_isWord_56 : decode cX8_isWord 56 = .ok (.ireturn, 1) := by decide +kernel
theorem dX9_init_0 : decode cX9_init 0 = .ok (.aload_n 0, 1) := by decide +kernel
theorem dX9_init_1 : decode cX9_init 1 = .ok (.invokespecial 1, 3) := by decide +kernel
theorem dX9_init_4 : decode cX9_init 4 = .ok (.aload_n 0, 1) := by decide +kernel
theorem dX9_init_5 : decode cX9_init 5 = .ok (.new 7, 3) := by decide +kernel
theorem dX9_init_8 : decode cX9_init 8 = .ok (.dup, 1) := by decide +kernel
theorem dX9_init_9 : decode cX9_init 9 = .ok (.invokespecial 9, 3) := by decide +kernel
theorem dX9_init_12 : decode cX9_init 12 = .ok (.putfield 10, 3) := by decide +kernel
theorem dX9_init_15 : decode cX9_init 15 = .ok (.aload_n 0, 1) := by decide +kernel
theorem dX9_init_16 : decode cX9_init 16 = .ok (.new 16, 3) := by decide +kernel
theorem dX9_init_19 : decode cX9_init 19 = .ok (.dup, 1) := by decide +kernel
theorem dX9_init_20 : decode cX9_init 20 = .ok (.invokespecial 18, 3) := by decide +kernel
theorem dX9_init_23 : decode cX9_init 23 = .ok (.putfield 19, 3) := by decide +kernel
theorem dX9_init_26 : decode cX9_init 26 = .ok (.aload_n 0, 1) := by decide +kernel
theorem dX9_init_27 : decode cX9_init 27 = .ok (.new 23, 3) := by decide +kernel
theorem dX9_init_30 : decode cX9_init 30 = .ok (.dup, 1) := by decide +kernel
theorem dX9_init_31 : decode cX9_init 31 = .ok (.invokespecial 25, 3) := by decide +kernel
theorem dX9_init_34 : decode cX9_init 34 = .ok (.putfield 26, 3) := by decide +kernel
theorem dX9_init_37 : decode cX9_init 37 = .ok (.aload_n 0, 1) := by decide +kernel
theorem dX9_init_38 : decode cX9_init 38 = .ok (.new 23, 3) := by decide +kernel
theorem dX9_init_41 : decode cX9_init 41 = .ok (.dup, 1) := by decide +kernel
theorem dX9_init_42 : decode cX9_init 42 = .ok (.invokespecial 25, 3) := by decide +kernel
theorem dX9_init_45 : decode cX9_init 45 = .ok (.putfield 30, 3) := by decide +kernel
theorem dX9_init_48 : decode cX9_init 48 = .ok (.aload_n 0, 1) := by decide +kernel
theorem dX9_init_49 : decode cX9_init 49 = .ok (.new 33, 3) := by decide +kernel
theorem dX9_init_52 : decode cX9_init 52 = .ok (.dup, 1) := by decide +kernel
theorem dX9_init_53 : decode cX9_init 53 = .ok (.invokespecial 35, 3) := by decide +kernel
theorem dX9_init_56 : decode cX9_init 56 = .ok (.putfield 36, 3) := by decide +kernel
theorem dX9_init_59 : decode cX9_init 59 = .ok (.aload_n 0, 1) := by decide +kernel
theorem dX9_init_60 : decode cX9_init 60 = .ok (.new 40, 3) := by decide +kernel
theorem dX9_init_63 : decode cX9_init 63 = .ok (.dup, 1) := by decide +kernel
theorem dX9_init_64 : decode cX9_init 64 = .ok (.invokespecial 42, 3) := by decide +kernel
theorem dX9_init_67 : decode cX9_init 67 = .ok (.putfield 43, 3) := by decide +kernel
theorem dX9_init_70 : decode cX9_init 70 = .ok (.aload_n 0, 1) := by decide +kernel
theorem dX9_init_71 : decode cX9_init 71 = .ok (.new 47, 3) := by decide +kernel
theorem dX9_init_74 : decode cX9_init 74 = .ok (.dup, 1) := by decide +kernel
theorem dX9_init_75 : decode cX9_init 75 = .ok (.invokespecial 49, 3) := by decide +kernel
theorem dX9_init_78 : decode cX9_init 78 = .ok (.putfield 50, 3) := by decide +kernel
theorem dX9_init_81 : decode cX9_init 81 = .ok (.aload_n 0, 1) := by decide +kernel
theorem dX9_init_82 : decode cX9_init 82 = .ok (.new 54, 3) := by decide +kernel
theorem dX9_init_85 : decode cX9_init 85 = .ok (.dup, 1) := by decide +kernel
theorem dX9_init_86 : decode cX9_init 86 = .ok (.invokespecial 56, 3) := by decide +kernel
theorem dX9_init_89 : decode cX9_init 89 = .ok (.putfield 57, 3) := by decide +kernel
theorem dX9_init_92 : decode cX9_init 92 = .ok (.aload_n 0, 1) := by decide +kernel
theorem dX9_init_93 : decode cX9_init 93 = .ok (.new 61, 3) := by decide +kernel
theorem dX9_init_96 : decode cX9_init 96 = .ok (.dup, 1) := by decide +kernel
theorem dX9_init_97 : decode cX9_init 97 = .ok (.invokespecial 63, 3) := by decide +kernel
theorem dX9_init_100 : decode cX9_init 100 = .ok (.putfield 64, 3) := by decide +kernel
theorem dX9_init_103 : decode cX9_init 103 = .ok (.aload_n 0, 1) := by decide +kernel
theorem dX9_init_104 : decode cX9_init 104 = .ok (.new 68, 3) := by decide +kernel
theorem dX9_init_107 : decode cX9_init 107 = .ok (.dup, 1) := by decide +kernel
theorem dX9_init_108 : decode cX9_init 108 = .ok (.invokespecial 70, 3) := by decide +kernel
theorem dX9_init_111 : decode cX9_init 111 = .ok (.putfield 71, 3) := by decide +kernel
theorem dX9_init_114 : decode cX9_init 114 = .ok (.return_, 1) := by decide +kernel
theorem dX9_feed_0 : decode cX9_feed 0 = .ok (.aload_n 0, 1) := by decide +kernel
theorem dX9_feed_1 : decode cX9_feed 1 = .ok (.getfield 10, 3) := by decide +kernel
theorem dX9_feed_4 : decode cX9_feed 4 = .ok (.invokevirtual 75, 3) := by decide +kernel
theorem dX9_feed_7 : decode cX9_feed 7 = .ok (.ifCond .ne 5, 3) := by decide +kernel
theorem dX9_feed_10 : decode cX9_feed 10 = .ok (.iconst (-1), 1) := by decide +kernel
theorem dX9_feed_11 : decode cX9_feed 11 = .ok (.ireturn, 1) := by decide +kernel
theorem dX9_feed_12 : decode cX9_feed 12 = .ok (.aload_n 0, 1) := by decide +kernel
theorem dX9_feed_13 : decode cX9_feed 13 = .ok (.getfield 10, 3) := by decide +kernel
theorem dX9_feed_16 : decode cX9_feed 16 = .ok (.iload_n 1, 1) := by decide +kernel
theorem dX9_feed_17 : decode cX9_feed 17 = .ok (.invokevirtual 79, 3) := by decide +kernel
theorem dX9_feed_20 : decode cX9_feed 20 = .ok (.aload_n 0, 1) := by decide +kernel
theorem dX9_feed_21 : decode cX9_feed 21 = .ok (.getfield 10, 3) := by decide +kernel
theorem dX9_feed_24 : decode cX9_feed 24 = .ok (.iload_n 2, 1) := by decide +kernel
theorem dX9_feed_25 : decode cX9_feed 25 = .ok (.invokevirtual 79, 3) := by decide +kernel
theorem dX9_feed_28 : decode cX9_feed 28 = .ok (.aload_n 0, 1) := by decide +kernel
theorem dX9_feed_29 : decode cX9_feed 29 = .ok (.getfield 10, 3) := by decide +kernel
theorem dX9_feed_32 : decode cX9_feed 32 = .ok (.iload_n 3, 1) := by decide +kernel
theorem dX9_feed_33 : decode cX9_feed 33 = .ok (.invokevirtual 79, 3) := by decide +kernel
theorem dX9_feed_36 : decode cX9_feed 36 = .ok (.aload_n 0, 1) := by decide +kernel
theorem dX9_feed_37 : decode cX9_feed 37 = .ok (.getfield 10, 3) := by decide +kernel
theorem dX9_feed_40 : decode cX9_feed 40 = .ok (.iload 4, 2) := by decide +kernel
theorem dX9_feed_42 : decode cX9_feed 42 = .ok (.invokevirtual 79, 3) := by decide +kernel
theorem dX9_feed_45 : decode cX9_feed 45 = .ok (.aload_n 0, 1) := by decide +kernel
theorem dX9_feed_46 : decode cX9_feed 46 = .ok (.getfield 10, 3) := by decide +kernel
theorem dX9_feed_49 : decode cX9_feed 49 = .ok (.iload 5, 2) := by decide +kernel
theorem dX9_feed_51 : decode cX9_feed 51 = .ok (.invokevirtual 79, 3) := by decide +kernel
theorem dX9_feed_54 : decode cX9_feed 54 = .ok (.aload_n 0, 1) := by decide +kernel
theorem dX9_feed_55 : decode cX9_feed 55 = .ok (.getfield 10, 3) := by decide +kernel
theorem dX9_feed_58 : decode cX9_feed 58 = .ok (.getfield 83, 3) := by decide +kernel
theorem dX9_feed_61 : decode cX9_feed 61 = .ok (.ireturn, 1) := by decide +kernel
theorem dX9_trade_0 : decode cX9_trade 0 = .ok (.aload_n 0, 1) := by decide +kernel
theorem dX9_trade_1 : decode cX9_trade 1 = .ok (.iload_n 1, 1) := by decide +kernel
theorem dX9_trade_2 : decode cX9_trade 2 = .ok (.iconst 0, 1) := by decide +kernel
theorem dX9_trade_3 : decode cX9_trade 3 = .ok (.aload_n 0, 1) := by decide +kernel
theorem dX9_trade_4 : decode cX9_trade 4 = .ok (.getfield 10, 3) := by decide +kernel
theorem dX9_trade_7 : decode cX9_trade 7 = .ok (.getfield 83, 3) := by decide +kernel
theorem dX9_trade_10 : decode cX9_trade 10 = .ok (.invokestatic 87, 3) := by decide +kernel
theorem dX9_trade_13 : decode cX9_trade 13 = .ok (.invokevirtual 91, 3) := by decide +kernel
theorem dX9_trade_16 : decode cX9_trade 16 = .ok (.aload_n 0, 1) := by decide +kernel
theorem dX9_trade_17 : decode cX9_trade 17 = .ok (.getfield 10, 3) := by decide +kernel
theorem dX9_trade_20 : decode cX9_trade 20 = .ok (.iload_n 1, 1) := by decide +kernel
theorem dX9_trade_21 : decode cX9_trade 21 = .ok (.invokevirtual 95, 3) := by decide +kernel
theorem dX9_trade_24 : decode cX9_trade 24 = .ok (.aload_n 0, 1) := by decide +kernel
theorem dX9_trade_25 : decode cX9_trade 25 = .ok (.getfield 36, 3) := by decide +kernel
theorem dX9_trade_28 : decode cX9_trade 28 = .ok (.aload_n 0, 1) := by decide +kernel
theorem dX9_trade_29 : decode cX9_trade 29 = .ok (.getfield 10, 3) := by decide +kernel
theorem dX9_trade_32 : decode cX9_trade 32 = .ok (.aload_n 0, 1) := by decide +kernel
theorem dX9_trade_33 : decode cX9_trade 33 = .ok (.getfield 30, 3) := by decide +kernel
theorem dX9_trade_36 : decode cX9_trade 36 = .ok (.invokevirtual 98, 3) := by decide +kernel
theorem dX9_trade_39 : decode cX9_trade 39 = .ok (.istore_n 2, 1) := by decide +kernel
theorem dX9_trade_40 : decode cX9_trade 40 = .ok (.aload_n 0, 1) := by decide +kernel
theorem dX9_trade_41 : decode cX9_trade 41 = .ok (.getfield 10, 3) := by decide +kernel
theorem dX9_trade_44 : decode cX9_trade 44 = .ok (.invokevirtual 102, 3) := by decide +kernel
theorem dX9_trade_47 : decode cX9_trade 47 = .ok (.iload_n 2, 1) := by decide +kernel
theorem dX9_trade_48 : decode cX9_trade 48 = .ok (.ifCond .ne 14, 3) := by decide +kernel
theorem dX9_trade_51 : decode cX9_trade 51 = .ok (.aload_n 0, 1) := by decide +kernel
theorem dX9_trade_52 : decode cX9_trade 52 = .ok (.getfield 10, 3) := by decide +kernel
theorem dX9_trade_55 : decode cX9_trade 55 = .ok (.getfield 105, 3) := by decide +kernel
theorem dX9_trade_58 : decode cX9_trade 58 = .ok (.bipush 10, 2) := by decide +kernel
theorem dX9_trade_60 : decode cX9_trade 60 = .ok (.isub, 1) := by decide +kernel
theorem dX9_trade_61 : decode cX9_trade 61 = .ok (.ireturn, 1) := by decide +kernel
theorem dX9_trade_62 : decode cX9_trade 62 = .ok (.aload_n 0, 1) := by decide +kernel
theorem dX9_trade_63 : decode cX9_trade 63 = .ok (.getfield 19, 3) := by decide +kernel
theorem dX9_trade_66 : decode cX9_trade 66 = .ok (.getfield 108, 3) := by decide +kernel
theorem dX9_trade_69 : decode cX9_trade 69 = .ok (.aload_n 0, 1) := by decide +kernel
theorem dX9_trade_70 : decode cX9_trade 70 = .ok (.getfield 36, 3) := by decide +kernel
theorem dX9_trade_73 : decode cX9_trade 73 = .ok (.invokevirtual 111, 3) := by decide +kernel
theorem dX9_trade_76 : decode cX9_trade 76 = .ok (.aload_n 0, 1) := by decide +kernel
theorem dX9_trade_77 : decode cX9_trade 77 = .ok (.getfield 19, 3) := by decide +kernel
theorem dX9_trade_80 : decode cX9_trade 80 = .ok (.getfield 115, 3) := by decide +kernel
theorem dX9_trade_83 : decode cX9_trade 83 = .ok (.invokevirtual 118, 3) := by decide +kernel
theorem dX9_trade_86 : decode cX9_trade 86 = .ok (.aload_n 0, 1) := by decide +kernel
theorem dX9_trade_87 : decode cX9_trade 87 = .ok (.getfield 26, 3) := by decide +kernel
theorem dX9_trade_90 : decode cX9_trade 90 = .ok (.aload_n 0, 1) := by decide +kernel
theorem dX9_trade_91 : decode cX9_trade 91 = .ok (.getfield 30, 3) := by decide +kernel
theorem dX9_trade_94 : decode cX9_trade 94 = .ok (.invokevirtual 121, 3) := by decide +kernel
theorem dX9_trade_97 : decode cX9_trade 97 = .ok (.aload_n 0, 1) := by decide +kernel
theorem dX9_trade_98 : decode cX9_trade 98 = .ok (.getfield 57, 3) := by decide +kernel
theorem dX9_trade_101 : decode cX9_trade 101 = .ok (.invokevirtual 124, 3) := by decide +kernel
theorem dX9_trade_104 : decode cX9_trade 104 = .ok (.aload_n 0, 1) := by decide +kernel
theorem dX9_trade_105 : decode cX9_trade 105 = .ok (.iconst 0, 1) := by decide +kernel
theorem dX9_trade_106 : decode cX9_trade 106 = .ok (.putfield 127, 3) := by decide +kernel
theorem dX9_trade_109 : decode cX9_trade 109 = .ok (.aload_n 0, 1) := by decide +kernel
theorem dX9_trade_110 : decode cX9_trade 110 = .ok (.getfield 26, 3) := by decide +kernel
theorem dX9_trade_113 : decode cX9_trade 113 = .ok (.getfield 130, 3) := by decide +kernel
theorem dX9_trade_116 : decode cX9_trade 116 = .ok (.ireturn, 1) := by decide +kernel
theorem dX9_law_0 : decode cX9_law 0 = .ok (.aload_n 0, 1) := by decide +kernel
theorem dX9_law_1 : decode cX9_law 1 = .ok (.iload_n 1, 1) := by decide +kernel
theorem dX9_law_2 : decode cX9_law 2 = .ok (.iconst 0, 1) := by decide +kernel
theorem dX9_law_3 : decode cX9_law 3 = .ok (.aload_n 0, 1) := by decide +kernel
theorem dX9_law_4 : decode cX9_law 4 = .ok (.getfield 10, 3) := by decide +kernel
theorem dX9_law_7 : decode cX9_law 7 = .ok (.getfield 83, 3) := by decide +kernel
theorem dX9_law_10 : decode cX9_law 10 = .ok (.sipush 150, 3) := by decide +kernel
theorem dX9_law_13 : decode cX9_law 13 = .ok (.invokestatic 133, 3) := by decide +kernel
theorem dX9_law_16 : decode cX9_law 16 = .ok (.invokestatic 87, 3) := by decide +kernel
theorem dX9_law_19 : decode cX9_law 19 = .ok (.invokevirtual 91, 3) := by decide +kernel
theorem dX9_law_22 : decode cX9_law 22 = .ok (.aload_n 0, 1) := by decide +kernel
theorem dX9_law_23 : decode cX9_law 23 = .ok (.getfield 10, 3) := by decide +kernel
theorem dX9_law_26 : decode cX9_law 26 = .ok (.iload_n 1, 1) := by decide +kernel
theorem dX9_law_27 : decode cX9_law 27 = .ok (.invokevirtual 95, 3) := by decide +kernel
theorem dX9_law_30 : decode cX9_law 30 = .ok (.aload_n 0, 1) := by decide +kernel
theorem dX9_law_31 : decode cX9_law 31 = .ok (.getfield 43, 3) := by decide +kernel
theorem dX9_law_34 : decode cX9_law 34 = .ok (.invokevirtual 139, 3) := by decide +kernel
theorem dX9_law_37 : decode cX9_law 37 = .ok (.aload_n 0, 1) := by decide +kernel
theorem dX9_law_38 : decode cX9_law 38 = .ok (.getfield 43, 3) := by decide +kernel
theorem dX9_law_41 : decode cX9_law 41 = .ok (.aload_n 0, 1) := by decide +kernel
theorem dX9_law_42 : decode cX9_law 42 = .ok (.getfield 10, 3) := by decide +kernel
theorem dX9_law_45 : decode cX9_law 45 = .ok (.iconst 0, 1) := by decide +kernel
theorem dX9_law_46 : decode cX9_law 46 = .ok (.invokevirtual 140, 3) := by decide +kernel
theorem dX9_law_49 : decode cX9_law 49 = .ok (.ifCond .eq 17, 3) := by decide +kernel
theorem dX9_law_52 : decode cX9_law 52 = .ok (.aload_n 0, 1) := by decide +kernel
theorem dX9_law_53 : decode cX9_law 53 = .ok (.getfield 10, 3) := by decide +kernel
theorem dX9_law_56 : decode cX9_law 56 = .ok (.invokevirtual 144, 3) := by decide +kernel
theorem dX9_law_59 : decode cX9_law 59 = .ok (.ifCond .eq 7, 3) := by decide +kernel
theorem dX9_law_62 : decode cX9_law 62 = .ok (.iconst 1, 1) := by decide +kernel
theorem dX9_law_63 : decode cX9_law 63 = .ok (.goto 4, 3) := by decide +kernel
theorem dX9_law_66 : decode cX9_law 66 = .ok (.iconst 0, 1) := by decide +kernel
theorem dX9_law_67 : decode cX9_law 67 = .ok (.istore_n 2, 1) := by decide +kernel
theorem dX9_law_68 : decode cX9_law 68 = .ok (.aload_n 0, 1) := by decide +kernel
theorem dX9_law_69 : decode cX9_law 69 = .ok (.getfield 10, 3) := by decide +kernel
theorem dX9_law_72 : decode cX9_law 72 = .ok (.invokevirtual 102, 3) := by decide +kernel
theorem dX9_law_75 : decode cX9_law 75 = .ok (.iload_n 2, 1) := by decide +kernel
theorem dX9_law_76 : decode cX9_law 76 = .ok (.ifCond .ne 14, 3) := by decide +kernel
theorem dX9_law_79 : decode cX9_law 79 = .ok (.aload_n 0, 1) := by decide +kernel
theorem dX9_law_80 : decode cX9_law 80 = .ok (.getfield 10, 3) := by decide +kernel
theorem dX9_law_83 : decode cX9_law 83 = .ok (.getfield 105, 3) := by decide +kernel
theorem dX9_law_86 : decode cX9_law 86 = .ok (.bipush 10, 2) := by decide +kernel
theorem dX9_law_88 : decode cX9_law 88 = .ok (.isub, 1) := by decide +kernel
theorem dX9_law_89 : decode cX9_law 89 = .ok (.ireturn, 1) := by decide +kernel
theorem dX9_law_90 : decode cX9_law 90 = .ok (.aload_n 0, 1) := by decide +kernel
theorem dX9_law_91 : decode cX9_law 91 = .ok (.getfield 19, 3) := by decide +kernel
theorem dX9_law_94 : decode cX9_law 94 = .ok (.getfield 115, 3) := by decide +kernel
theorem dX9_law_97 : decode cX9_law 97 = .ok (.aload_n 0, 1) := by decide +kernel
theorem dX9_law_98 : decode cX9_law 98 = .ok (.getfield 43, 3) := by decide +kernel
theorem dX9_law_101 : decode cX9_law 101 = .ok (.invokevirtual 147, 3) := by decide +kernel
theorem dX9_law_104 : decode cX9_law 104 = .ok (.iconst 1, 1) := by decide +kernel
theorem dX9_law_105 : decode cX9_law 105 = .ok (.ireturn, 1) := by decide +kernel
theorem dX9_work_0 : decode cX9_work 0 = .ok (.aload_n 0, 1) := by decide +kernel
theorem dX9_work_1 : decode cX9_work 1 = .ok (.iload_n 1, 1) := by decide +kernel
theorem dX9_work_2 : decode cX9_work 2 = .ok (.iconst 0, 1) := by decide +kernel
theorem dX9_work_3 : decode cX9_work 3 = .ok (.aload_n 0, 1) := by decide +kernel
theorem dX9_work_4 : decode cX9_work 4 = .ok (.getfield 10, 3) := by decide +kernel
theorem dX9_work_7 : decode cX9_work 7 = .ok (.getfield 83, 3) := by decide +kernel
theorem dX9_work_10 : decode cX9_work 10 = .ok (.sipush 150, 3) := by decide +kernel
theorem dX9_work_13 : decode cX9_work 13 = .ok (.invokestatic 133, 3) := by decide +kernel
theorem dX9_work_16 : decode cX9_work 16 = .ok (.invokestatic 87, 3) := by decide +kernel
theorem dX9_work_19 : decode cX9_work 19 = .ok (.invokevirtual 91, 3) := by decide +kernel
theorem dX9_work_22 : decode cX9_work 22 = .ok (.aload_n 0, 1) := by decide +kernel
theorem dX9_work_23 : decode cX9_work 23 = .ok (.getfield 57, 3) := by decide +kernel
theorem dX9_work_26 : decode cX9_work 26 = .ok (.getfield 150, 3) := by decide +kernel
theorem dX9_work_29 : decode cX9_work 29 = .ok (.bipush 16, 2) := by decide +kernel
theorem dX9_work_31 : decode cX9_work 31 = .ok (.if_icmp .lt 7, 3) := by decide +kernel
theorem dX9_work_34 : decode cX9_work 34 = .ok (.iconst 1, 1) := by decide +kernel
theorem dX9_work_35 : decode cX9_work 35 = .ok (.goto 4, 3) := by decide +kernel
theorem dX9_work_38 : decode cX9_work 38 = .ok (.iconst 0, 1) := by decide +kernel
theorem dX9_work_39 : decode cX9_work 39 = .ok (.istore_n 2, 1) := by decide +kernel
theorem dX9_work_40 : decode cX9_work 40 = .ok (.aload_n 0, 1) := by decide +kernel
theorem dX9_work_41 : decode cX9_work 41 = .ok (.getfield 10, 3) := by decide +kernel
theorem dX9_work_44 : decode cX9_work 44 = .ok (.iload_n 2, 1) := by decide +kernel
theorem dX9_work_45 : decode cX9_work 45 = .ok (.ifCond .eq 7, 3) := by decide +kernel
theorem dX9_work_48 : decode cX9_work 48 = .ok (.iconst 0, 1) := by decide +kernel
theorem dX9_work_49 : decode cX9_work 49 = .ok (.goto 4, 3) := by decide +kernel
theorem dX9_work_52 : decode cX9_work 52 = .ok (.iload_n 1, 1) := by decide +kernel
theorem dX9_work_53 : decode cX9_work 53 = .ok (.invokevirtual 95, 3) := by decide +kernel
theorem dX9_work_56 : decode cX9_work 56 = .ok (.iload_n 2, 1) := by decide +kernel
theorem dX9_work_57 : decode cX9_work 57 = .ok (.ifCond .ne 38, 3) := by decide +kernel
theorem dX9_work_60 : decode cX9_work 60 = .ok (.aload_n 0, 1) := by decide +kernel
theorem dX9_work_61 : decode cX9_work 61 = .ok (.getfield 50, 3) := by decide +kernel
theorem dX9_work_64 : decode cX9_work 64 = .ok (.aload_n 0, 1) := by decide +kernel
theorem dX9_work_65 : decode cX9_work 65 = .ok (.getfield 10, 3) := by decide +kernel
theorem dX9_work_68 : decode cX9_work 68 = .ok (.aload_n 0, 1) := by decide +kernel
theorem dX9_work_69 : decode cX9_work 69 = .ok (.getfield 26, 3) := by decide +kernel
theorem dX9_work_72 : decode cX9_work 72 = .ok (.getfield 130, 3) := by decide +kernel
theorem dX9_work_75 : decode cX9_work 75 = .ok (.aload_n 0, 1) := by decide +kernel
theorem dX9_work_76 : decode cX9_work 76 = .ok (.getfield 19, 3) := by decide +kernel
theorem dX9_work_79 : decode cX9_work 79 = .ok (.getfield 108, 3) := by decide +kernel
theorem dX9_work_82 : decode cX9_work 82 = .ok (.getfield 153, 3) := by decide +kernel
theorem dX9_work_85 : decode cX9_work 85 = .ok (.invokevirtual 156, 3) := by decide +kernel
theorem dX9_work_88 : decode cX9_work 88 = .ok (.ifCond .eq 7, 3) := by decide +kernel
theorem dX9_work_91 : decode cX9_work 91 = .ok (.iconst 1, 1) := by decide +kernel
theorem dX9_work_92 : decode cX9_work 92 = .ok (.goto 4, 3) := by decide +kernel
theorem dX9_work_95 : decode cX9_work 95 = .ok (.iconst 0, 1) := by decide +kernel
theorem dX9_work_96 : decode cX9_work 96 = .ok (.istore_n 3, 1) := by decide +kernel
theorem dX9_work_97 : decode cX9_work 97 = .ok (.aload_n 0, 1) := by decide +kernel
theorem dX9_work_98 : decode cX9_work 98 = .ok (.getfield 10, 3) := by decide +kernel
theorem dX9_work_101 : decode cX9_work 101 = .ok (.invokevirtual 102, 3) := by decide +kernel
theorem dX9_work_104 : decode cX9_work 104 = .ok (.iload_n 2, 1) := by decide +kernel
theorem dX9_work_105 : decode cX9_work 105 = .ok (.ifCond .eq 6, 3) := by decide +kernel
theorem dX9_work_108 : decode cX9_work 108 = .ok (.bipush (-20), 2) := by decide +kernel
theorem dX9_work_110 : decode cX9_work 110 = .ok (.ireturn, 1) := by decide +kernel
theorem dX9_work_111 : decode cX9_work 111 = .ok (.iload_n 3, 1) := by decide +kernel
theorem dX9_work_112 : decode cX9_work 112 = .ok (.ifCond .ne 14, 3) := by decide +kernel
theorem dX9_work_115 : decode cX9_work 115 = .ok (.aload_n 0, 1) := by decide +kernel
theorem dX9_work_116 : decode cX9_work 116 = .ok (.getfield 10, 3) := by decide +kernel
theorem dX9_work_119 : decode cX9_work 119 = .ok (.getfield 105, 3) := by decide +kernel
theorem dX9_work_122 : decode cX9_work 122 = .ok (.bipush 10, 2) := by decide +kernel
theorem dX9_work_124 : decode cX9_work 124 = .ok (.isub, 1) := by decide +kernel
theorem dX9_work_125 : decode cX9_work 125 = .ok (.ireturn, 1) := by decide +kernel
theorem dX9_work_126 : decode cX9_work 126 = .ok (.aload_n 0, 1) := by decide +kernel
theorem dX9_work_127 : decode cX9_work 127 = .ok (.getfield 57, 3) := by decide +kernel
theorem dX9_work_130 : decode cX9_work 130 = .ok (.aload_n 0, 1) := by decide +kernel
theorem dX9_work_131 : decode cX9_work 131 = .ok (.getfield 26, 3) := by decide +kernel
theorem dX9_work_134 : decode cX9_work 134 = .ok (.invokevirtual 160, 3) := by decide +kernel
theorem dX9_work_137 : decode cX9_work 137 = .ok (.aload_n 0, 1) := by decide +kernel
theorem dX9_work_138 : decode cX9_work 138 = .ok (.getfield 50, 3) := by decide +kernel
theorem dX9_work_141 : decode cX9_work 141 = .ok (.invokevirtual 163, 3) := by decide +kernel
theorem dX9_work_144 : decode cX9_work 144 = .ok (.aload_n 0, 1) := by decide +kernel
theorem dX9_work_145 : decode cX9_work 145 = .ok (.getfield 50, 3) := by decide +kernel
theorem dX9_work_148 : decode cX9_work 148 = .ok (.aload_n 0, 1) := by decide +kernel
theorem dX9_work_149 : decode cX9_work 149 = .ok (.getfield 19, 3) := by decide +kernel
theorem dX9_work_152 : decode cX9_work 152 = .ok (.aload_n 0, 1) := by decide +kernel
theorem dX9_work_153 : decode cX9_work 153 = .ok (.getfield 26, 3) := by decide +kernel
theorem dX9_work_156 : decode cX9_work 156 = .ok (.iconst 0, 1) := by decide +kernel
theorem dX9_work_157 : decode cX9_work 157 = .ok (.aload_n 0, 1) := by decide +kernel
theorem dX9_work_158 : decode cX9_work 158 = .ok (.getfield 50, 3) := by decide +kernel
theorem dX9_work_161 : decode cX9_work 161 = .ok (.getfield 166, 3) := by decide +kernel
theorem dX9_work_164 : decode cX9_work 164 = .ok (.iconst 0, 1) := by decide +kernel
theorem dX9_work_165 : decode cX9_work 165 = .ok (.invokevirtual 169, 3) := by decide +kernel
theorem dX9_work_168 : decode cX9_work 168 = .ok (.aload_n 0, 1) := by decide +kernel
theorem dX9_work_169 : decode cX9_work 169 = .ok (.aload_n 0, 1) := by decide +kernel
theorem dX9_work_170 : decode cX9_work 170 = .ok (.getfield 50, 3) := by decide +kernel
theorem dX9_work_173 : decode cX9_work 173 = .ok (.getfield 173, 3) := by decide +kernel
theorem dX9_work_176 : decode cX9_work 176 = .ok (.putfield 127, 3) := by decide +kernel
theorem dX9_work_179 : decode cX9_work 179 = .ok (.aload_n 0, 1) := by decide +kernel
theorem dX9_work_180 : decode cX9_work 180 = .ok (.getfield 50, 3) := by decide +kernel
theorem dX9_work_183 : decode cX9_work 183 = .ok (.getfield 176, 3) := by decide +kernel
theorem dX9_work_186 : decode cX9_work 186 = .ok (.ireturn, 1) := by decide +kernel
theorem dX9_fault_0 : decode cX9_fault 0 = .ok (.aload_n 0, 1) := by decide +kernel
theorem dX9_fault_1 : decode cX9_fault 1 = .ok (.getfield 10, 3) := by decide +kernel
theorem dX9_fault_4 : decode cX9_fault 4 = .ok (.getfield 179, 3) := by decide +kernel
theorem dX9_fault_7 : decode cX9_fault 7 = .ok (.ireturn, 1) := by decide +kernel
theorem dX9_undo_0 : decode cX9_undo 0 = .ok (.aload_n 0, 1) := by decide +kernel
theorem dX9_undo_1 : decode cX9_undo 1 = .ok (.getfield 57, 3) := by decide +kernel
theorem dX9_undo_4 : decode cX9_undo 4 = .ok (.aload_n 0, 1) := by decide +kernel
theorem dX9_undo_5 : decode cX9_undo 5 = .ok (.getfield 26, 3) := by decide +kernel
theorem dX9_undo_8 : decode cX9_undo 8 = .ok (.invokevirtual 182, 3) := by decide +kernel
theorem dX9_undo_11 : decode cX9_undo 11 = .ok (.ifCond .ne 5, 3) := by decide +kernel
theorem dX9_undo_14 : decode cX9_undo 14 = .ok (.iconst (-1), 1) := by decide +kernel
theorem dX9_undo_15 : decode cX9_undo 15 = .ok (.ireturn, 1) := by decide +kernel
theorem dX9_undo_16 : decode cX9_undo 16 = .ok (.aload_n 0, 1) := by decide +kernel
theorem dX9_undo_17 : decode cX9_undo 17 = .ok (.iconst 0, 1) := by decide +kernel
theorem dX9_undo_18 : decode cX9_undo 18 = .ok (.putfield 127, 3) := by decide +kernel
theorem dX9_undo_21 : decode cX9_undo 21 = .ok (.aload_n 0, 1) := by decide +kernel
theorem dX9_undo_22 : decode cX9_undo 22 = .ok (.getfield 57, 3) := by decide +kernel
theorem dX9_undo_25 : decode cX9_undo 25 = .ok (.getfield 150, 3) := by decide +kernel
theorem dX9_undo_28 : decode cX9_undo 28 = .ok (.ireturn, 1) := by decide +kernel
theorem dX9_told_0 : decode cX9_told 0 = .ok (.aload_n 0, 1) := by decide +kernel
theorem dX9_told_1 : decode cX9_told 1 = .ok (.iload_n 1, 1) := by decide +kernel
theorem dX9_told_2 : decode cX9_told 2 = .ok (.iconst 0, 1) := by decide +kernel
theorem dX9_told_3 : decode cX9_told 3 = .ok (.bipush 8, 2) := by decide +kernel
theorem dX9_told_5 : decode cX9_told 5 = .ok (.invokestatic 87, 3) := by decide +kernel
theorem dX9_told_8 : decode cX9_told 8 = .ok (.invokevirtual 91, 3) := by decide +kernel
theorem dX9_told_11 : decode cX9_told 11 = .ok (.iload_n 1, 1) := by decide +kernel
theorem dX9_told_12 : decode cX9_told 12 = .ok (.tableswitch 115 0 7 #[48, 56, 67, 75, 83, 91, 102, 107], 48) := by decide +kernel
theorem dX9_told_60 : decode cX9_told 60 = .ok (.aload_n 0, 1) := by decide +kernel
theorem dX9_told_61 : decode cX9_told 61 = .ok (.getfield 26, 3) := by decide +kernel
theorem dX9_told_64 : decode cX9_told 64 = .ok (.getfield 130, 3) := by decide +kernel
theorem dX9_told_67 : decode cX9_told 67 = .ok (.ireturn, 1) := by decide +kernel
theorem dX9_told_68 : decode cX9_told 68 = .ok (.aload_n 0, 1) := by decide +kernel
theorem dX9_told_69 : decode cX9_told 69 = .ok (.getfield 19, 3) := by decide +kernel
theorem dX9_told_72 : decode cX9_told 72 = .ok (.getfield 108, 3) := by decide +kernel
theorem dX9_told_75 : decode cX9_told 75 = .ok (.getfield 153, 3) := by decide +kernel
theorem dX9_told_78 : decode cX9_told 78 = .ok (.ireturn, 1) := by decide +kernel
theorem dX9_told_79 : decode cX9_told 79 = .ok (.aload_n 0, 1) := by decide +kernel
theorem dX9_told_80 : decode cX9_told 80 = .ok (.getfield 26, 3) := by decide +kernel
theorem dX9_told_83 : decode cX9_told 83 = .ok (.getfield 186, 3) := by decide +kernel
theorem dX9_told_86 : decode cX9_told 86 = .ok (.ireturn, 1) := by decide +kernel
theorem dX9_told_87 : decode cX9_told 87 = .ok (.aload_n 0, 1) := by decide +kernel
theorem dX9_told_88 : decode cX9_told 88 = .ok (.getfield 26, 3) := by decide +kernel
theorem dX9_told_91 : decode cX9_told 91 = .ok (.getfield 189, 3) := by decide +kernel
theorem dX9_told_94 : decode cX9_told 94 = .ok (.ireturn, 1) := by decide +kernel
theorem dX9_told_95 : decode cX9_told 95 = .ok (.aload_n 0, 1) := by decide +kernel
theorem dX9_told_96 : decode cX9_told 96 = .ok (.getfield 26, 3) := by decide +kernel
theorem dX9_told_99 : decode cX9_told 99 = .ok (.invokevirtual 192, 3) := by decide +kernel
theorem dX9_told_102 : decode cX9_told 102 = .ok (.ireturn, 1) := by decide +kernel
theorem dX9_told_103 : decode cX9_told 103 = .ok (.aload_n 0, 1) := by decide +kernel
theorem dX9_told_104 : decode cX9_told 104 = .ok (.getfield 19, 3) := by decide +kernel
theorem dX9_told_107 : decode cX9_told 107 = .ok (.getfield 108, 3) := by decide +kernel
theorem dX9_told_110 : decode cX9_told 110 = .ok (.getfield 196, 3) := by decide +kernel
theorem dX9_told_113 : decode cX9_told 113 = .ok (.ireturn, 1) := by decide +kernel
theorem dX9_told_114 : decode cX9_told 114 = .ok (.aload_n 0, 1) := by decide +kernel
theorem dX9_told_115 : decode cX9_told 115 = .ok (.getfield 127, 3) := by decide +kernel
theorem dX9_told_118 : decode cX9_told 118 = .ok (.ireturn, 1) := by decide +kernel
theorem dX9_told_119 : decode cX9_told 119 = .ok (.aload_n 0, 1) := by decide +kernel
theorem dX9_told_120 : decode cX9_told 120 = .ok (.getfield 26, 3) := by decide +kernel
theorem dX9_told_123 : decode cX9_told 123 = .ok (.invokevirtual 199, 3) := by decide +kernel
theorem dX9_told_126 : decode cX9_told 126 = .ok (.ireturn, 1) := by decide +kernel
theorem dX9_told_127 : decode cX9_told 127 = .ok (.aload_n 0, 1) := by decide +kernel
theorem dX9_told_128 : decode cX9_told 128 = .ok (.getfield 26, 3) := by decide +kernel
theorem dX9_told_131 : decode cX9_told 131 = .ok (.invokevirtual 202, 3) := by decide +kernel
theorem dX9_told_134 : decode cX9_told 134 = .ok (.ireturn, 1) := by decide +kernel
theorem dX9_beast_0 : decode cX9_beast 0 = .ok (.aload_n 0, 1) := by decide +kernel
theorem dX9_beast_1 : decode cX9_beast 1 = .ok (.iload_n 1, 1) := by decide +kernel
theorem dX9_beast_2 : decode cX9_beast 2 = .ok (.invokevirtual 205, 3) := by decide +kernel
theorem dX9_beast_5 : decode cX9_beast 5 = .ok (.aload_n 0, 1) := by decide +kernel
theorem dX9_beast_6 : decode cX9_beast 6 = .ok (.iload_n 2, 1) := by decide +kernel
theorem dX9_beast_7 : decode cX9_beast 7 = .ok (.iconst 0, 1) := by decide +kernel
theorem dX9_beast_8 : decode cX9_beast 8 = .ok (.iconst 5, 1) := by decide +kernel
theorem dX9_beast_9 : decode cX9_beast 9 = .ok (.invokestatic 87, 3) := by decide +kernel
theorem dX9_beast_12 : decode cX9_beast 12 = .ok (.invokevirtual 91, 3) := by decide +kernel
theorem dX9_beast_15 : decode cX9_beast 15 = .ok (.iload_n 2, 1) := by decide +kernel
theorem dX9_beast_16 : decode cX9_beast 16 = .ok (.tableswitch 89 0 4 #[36, 46, 56, 66, 76], 36) := by decide +kernel
theorem dX9_beast_52 : decode cX9_beast 52 = .ok (.aload_n 0, 1) := by decide +kernel
theorem dX9_beast_53 : decode cX9_beast 53 = .ok (.getfield 26, 3) := by decide +kernel
theorem dX9_beast_56 : decode cX9_beast 56 = .ok (.getfield 208, 3) := by decide +kernel
theorem dX9_beast_59 : decode cX9_beast 59 = .ok (.iload_n 1, 1) := by decide +kernel
theorem dX9_beast_60 : decode cX9_beast 60 = .ok (.iaload, 1) := by decide +kernel
theorem dX9_beast_61 : decode cX9_beast 61 = .ok (.ireturn, 1) := by decide +kernel
theorem dX9_beast_62 : decode cX9_beast 62 = .ok (.aload_n 0, 1) := by decide +kernel
theorem dX9_beast_63 : decode cX9_beast 63 = .ok (.getfield 26, 3) := by decide +kernel
theorem dX9_beast_66 : decode cX9_beast 66 = .ok (.getfield 212, 3) := by decide +kernel
theorem dX9_beast_69 : decode cX9_beast 69 = .ok (.iload_n 1, 1) := by decide +kernel
theorem dX9_beast_70 : decode cX9_beast 70 = .ok (.iaload, 1) := by decide +kernel
theorem dX9_beast_71 : decode cX9_beast 71 = .ok (.ireturn, 1) := by decide +kernel
theorem dX9_beast_72 : decode cX9_beast 72 = .ok (.aload_n 0, 1) := by decide +kernel
theorem dX9_beast_73 : decode cX9_beast 73 = .ok (.getfield 26, 3) := by decide +kernel
theorem dX9_beast_76 : decode cX9_beast 76 = .ok (.getfield 215, 3) := by decide +kernel
theorem dX9_beast_79 : decode cX9_beast 79 = .ok (.iload_n 1, 1) := by decide +kernel
theorem dX9_beast_80 : decode cX9_beast 80 = .ok (.iaload, 1) := by decide +kernel
theorem dX9_beast_81 : decode cX9_beast 81 = .ok (.ireturn, 1) := by decide +kernel
theorem dX9_beast_82 : decode cX9_beast 82 = .ok (.aload_n 0, 1) := by decide +kernel
theorem dX9_beast_83 : decode cX9_beast 83 = .ok (.getfield 26, 3) := by decide +kernel
theorem dX9_beast_86 : decode cX9_beast 86 = .ok (.getfield 218, 3) := by decide +kernel
theorem dX9_beast_89 : decode cX9_beast 89 = .ok (.iload_n 1, 1) := by decide +kernel
theorem dX9_beast_90 : decode cX9_beast 90 = .ok (.iaload, 1) := by decide +kernel
theorem dX9_beast_91 : decode cX9_beast 91 = .ok (.ireturn, 1) := by decide +kernel
theorem dX9_beast_92 : decode cX9_beast 92 = .ok (.aload_n 0, 1) := by decide +kernel
theorem dX9_beast_93 : decode cX9_beast 93 = .ok (.getfield 26, 3) := by decide +kernel
theorem dX9_beast_96 : decode cX9_beast 96 = .ok (.getfield 208, 3) := by decide +kernel
theorem dX9_beast_99 : decode cX9_beast 99 = .ok (.iload_n 1, 1) := by decide +kernel
theorem dX9_beast_100 : decode cX9_beast 100 = .ok (.iaload, 1) := by decide +kernel
theorem dX9_beast_101 : decode cX9_beast 101 = .ok (.invokestatic 221, 3) := by decide +kernel
theorem dX9_beast_104 : decode cX9_beast 104 = .ok (.ireturn, 1) := by decide +kernel
theorem dX9_beast_105 : decode cX9_beast 105 = .ok (.aload_n 0, 1) := by decide +kernel
theorem dX9_beast_106 : decode cX9_beast 106 = .ok (.getfield 19, 3) := by decide +kernel
theorem dX9_beast_109 : decode cX9_beast 109 = .ok (.aload_n 0, 1) := by decide +kernel
theorem dX9_beast_110 : decode cX9_beast 110 = .ok (.getfield 26, 3) := by decide +kernel
theorem dX9_beast_113 : decode cX9_beast 113 = .ok (.getfield 208, 3) := by decide +kernel
theorem dX9_beast_116 : decode cX9_beast 116 = .ok (.iload_n 1, 1) := by decide +kernel
theorem dX9_beast_117 : decode cX9_beast 117 = .ok (.iaload, 1) := by decide +kernel
theorem dX9_beast_118 : decode cX9_beast 118 = .ok (.invokevirtual 227, 3) := by decide +kernel
theorem dX9_beast_121 : decode cX9_beast 121 = .ok (.ireturn, 1) := by decide +kernel
theorem dX9_gate_0 : decode cX9_gate 0 = .ok (.aload_n 0, 1) := by decide +kernel
theorem dX9_gate_1 : decode cX9_gate 1 = .ok (.iload_n 1, 1) := by decide +kernel
theorem dX9_gate_2 : decode cX9_gate 2 = .ok (.invokevirtual 230, 3) := by decide +kernel
theorem dX9_gate_5 : decode cX9_gate 5 = .ok (.aload_n 0, 1) := by decide +kernel
theorem dX9_gate_6 : decode cX9_gate 6 = .ok (.iload_n 2, 1) := by decide +kernel
theorem dX9_gate_7 : decode cX9_gate 7 = .ok (.iconst 0, 1) := by decide +kernel
theorem dX9_gate_8 : decode cX9_gate 8 = .ok (.iconst 5, 1) := by decide +kernel
theorem dX9_gate_9 : decode cX9_gate 9 = .ok (.invokestatic 87, 3) := by decide +kernel
theorem dX9_gate_12 : decode cX9_gate 12 = .ok (.invokevirtual 91, 3) := by decide +kernel
theorem dX9_gate_15 : decode cX9_gate 15 = .ok (.iload_n 2, 1) := by decide +kernel
theorem dX9_gate_16 : decode cX9_gate 16 = .ok (.tableswitch 95 0 4 #[36, 49, 62, 75, 85], 36) := by decide +kernel
theorem dX9_gate_52 : decode cX9_gate 52 = .ok (.aload_n 0, 1) := by decide +kernel
theorem dX9_gate_53 : decode cX9_gate 53 = .ok (.getfield 19, 3) := by decide +kernel
theorem dX9_gate_56 : decode cX9_gate 56 = .ok (.getfield 108, 3) := by decide +kernel
theorem dX9_gate_59 : decode cX9_gate 59 = .ok (.getfield 233, 3) := by decide +kernel
theorem dX9_gate_62 : decode cX9_gate 62 = .ok (.iload_n 1, 1) := by decide +kernel
theorem dX9_gate_63 : decode cX9_gate 63 = .ok (.iaload, 1) := by decide +kernel
theorem dX9_gate_64 : decode cX9_gate 64 = .ok (.ireturn, 1) := by decide +kernel
theorem dX9_gate_65 : decode cX9_gate 65 = .ok (.aload_n 0, 1) := by decide +kernel
theorem dX9_gate_66 : decode cX9_gate 66 = .ok (.getfield 19, 3) := by decide +kernel
theorem dX9_gate_69 : decode cX9_gate 69 = .ok (.getfield 108, 3) := by decide +kernel
theorem dX9_gate_72 : decode cX9_gate 72 = .ok (.getfield 236, 3) := by decide +kernel
theorem dX9_gate_75 : decode cX9_gate 75 = .ok (.iload_n 1, 1) := by decide +kernel
theorem dX9_gate_76 : decode cX9_gate 76 = .ok (.iaload, 1) := by decide +kernel
theorem dX9_gate_77 : decode cX9_gate 77 = .ok (.ireturn, 1) := by decide +kernel
theorem dX9_gate_78 : decode cX9_gate 78 = .ok (.aload_n 0, 1) := by decide +kernel
theorem dX9_gate_79 : decode cX9_gate 79 = .ok (.getfield 19, 3) := by decide +kernel
theorem dX9_gate_82 : decode cX9_gate 82 = .ok (.getfield 108, 3) := by decide +kernel
theorem dX9_gate_85 : decode cX9_gate 85 = .ok (.getfield 239, 3) := by decide +kernel
theorem dX9_gate_88 : decode cX9_gate 88 = .ok (.iload_n 1, 1) := by decide +kernel
theorem dX9_gate_89 : decode cX9_gate 89 = .ok (.iaload, 1) := by decide +kernel
theorem dX9_gate_90 : decode cX9_gate 90 = .ok (.ireturn, 1) := by decide +kernel
theorem dX9_gate_91 : decode cX9_gate 91 = .ok (.aload_n 0, 1) := by decide +kernel
theorem dX9_gate_92 : decode cX9_gate 92 = .ok (.getfield 26, 3) := by decide +kernel
theorem dX9_gate_95 : decode cX9_gate 95 = .ok (.getfield 242, 3) := by decide +kernel
theorem dX9_gate_98 : decode cX9_gate 98 = .ok (.iload_n 1, 1) := by decide +kernel
theorem dX9_gate_99 : decode cX9_gate 99 = .ok (.iaload, 1) := by decide +kernel
theorem dX9_gate_100 : decode cX9_gate 100 = .ok (.ireturn, 1) := by decide +kernel
theorem dX9_gate_101 : decode cX9_gate 101 = .ok (.aload_n 0, 1) := by decide +kernel
theorem dX9_gate_102 : decode cX9_gate 102 = .ok (.getfield 26, 3) := by decide +kernel
theorem dX9_gate_105 : decode cX9_gate 105 = .ok (.getfield 245, 3) := by decide +kernel
theorem dX9_gate_108 : decode cX9_gate 108 = .ok (.iload_n 1, 1) := by decide +kernel
theorem dX9_gate_109 : decode cX9_gate 109 = .ok (.iaload, 1) := by decide +kernel
theorem dX9_gate_110 : decode cX9_gate 110 = .ok (.ireturn, 1) := by decide +kernel
theorem dX9_gate_111 : decode cX9_gate 111 = .ok (.aload_n 0, 1) := by decide +kernel
theorem dX9_gate_112 : decode cX9_gate 112 = .ok (.getfield 19, 3) := by decide +kernel
theorem dX9_gate_115 : decode cX9_gate 115 = .ok (.aload_n 0, 1) := by decide +kernel
theorem dX9_gate_116 : decode cX9_gate 116 = .ok (.getfield 26, 3) := by decide +kernel
theorem dX9_gate_119 : decode cX9_gate 119 = .ok (.iload_n 1, 1) := by decide +kernel
theorem dX9_gate_120 : decode cX9_gate 120 = .ok (.invokevirtual 248, 3) := by decide +kernel
theorem dX9_gate_123 : decode cX9_gate 123 = .ok (.ireturn, 1) := by decide +kernel
theorem dX9_listed_0 : decode cX9_listed 0 = .ok (.aload_n 0, 1) := by decide +kernel
theorem dX9_listed_1 : decode cX9_listed 1 = .ok (.iload_n 1, 1) := by decide +kernel
theorem dX9_listed_2 : decode cX9_listed 2 = .ok (.invokevirtual 230, 3) := by decide +kernel
theorem dX9_listed_5 : decode cX9_listed 5 = .ok (.aload_n 0, 1) := by decide +kernel
theorem dX9_listed_6 : decode cX9_listed 6 = .ok (.iload_n 2, 1) := by decide +kernel
theorem dX9_listed_7 : decode cX9_listed 7 = .ok (.ifCond .lt 7, 3) := by decide +kernel
theorem dX9_listed_10 : decode cX9_listed 10 = .ok (.iconst 1, 1) := by decide +kernel
theorem dX9_listed_11 : decode cX9_listed 11 = .ok (.goto 4, 3) := by decide +kernel
theorem dX9_listed_14 : decode cX9_listed 14 = .ok (.iconst 0, 1) := by decide +kernel
theorem dX9_listed_15 : decode cX9_listed 15 = .ok (.invokevirtual 91, 3) := by decide +kernel
theorem dX9_listed_18 : decode cX9_listed 18 = .ok (.iload_n 2, 1) := by decide +kernel
theorem dX9_listed_19 : decode cX9_listed 19 = .ok (.aload_n 0, 1) := by decide +kernel
theorem dX9_listed_20 : decode cX9_listed 20 = .ok (.getfield 19, 3) := by decide +kernel
theorem dX9_listed_23 : decode cX9_listed 23 = .ok (.getfield 108, 3) := by decide +kernel
theorem dX9_listed_26 : decode cX9_listed 26 = .ok (.getfield 239, 3) := by decide +kernel
theorem dX9_listed_29 : decode cX9_listed 29 = .ok (.iload_n 1, 1) := by decide +kernel
theorem dX9_listed_30 : decode cX9_listed 30 = .ok (.iaload, 1) := by decide +kernel
theorem dX9_listed_31 : decode cX9_listed 31 = .ok (.if_icmp .ge 20, 3) := by decide +kernel
theorem dX9_listed_34 : decode cX9_listed 34 = .ok (.aload_n 0, 1) := by decide +kernel
theorem dX9_listed_35 : decode cX9_listed 35 = .ok (.getfield 19, 3) := by decide +kernel
theorem dX9_listed_38 : decode cX9_listed 38 = .ok (.getfield 108, 3) := by decide +kernel
theorem dX9_listed_41 : decode cX9_listed 41 = .ok (.getfield 252, 3) := by decide +kernel
theorem dX9_listed_44 : decode cX9_listed 44 = .ok (.iload_n 1, 1) := by decide +kernel
theorem dX9_listed_45 : decode cX9_listed 45 = .ok (.aaload, 1) := by decide +kernel
theorem dX9_listed_46 : decode cX9_listed 46 = .ok (.iload_n 2, 1) := by decide +kernel
theorem dX9_listed_47 : decode cX9_listed 47 = .ok (.iaload, 1) := by decide +kernel
theorem dX9_listed_48 : decode cX9_listed 48 = .ok (.goto 4, 3) := by decide +kernel
theorem dX9_listed_51 : decode cX9_listed 51 = .ok (.iconst (-1), 1) := by decide +kernel
theorem dX9_listed_52 : decode cX9_listed 52 = .ok (.ireturn, 1) := by decide +kernel
theorem dX9_slips_0 : decode cX9_slips 0 = .ok (.aload_n 0, 1) := by decide +kernel
theorem dX9_slips_1 : decode cX9_slips 1 = .ok (.iload_n 1, 1) := by decide +kernel
theorem dX9_slips_2 : decode cX9_slips 2 = .ok (.iconst 0, 1) := by decide +kernel
theorem dX9_slips_3 : decode cX9_slips 3 = .ok (.sipush 255, 3) := by decide +kernel
theorem dX9_slips_6 : decode cX9_slips 6 = .ok (.invokestatic 87, 3) := by decide +kernel
theorem dX9_slips_9 : decode cX9_slips 9 = .ok (.ifCond .eq 18, 3) := by decide +kernel
theorem dX9_slips_12 : decode cX9_slips 12 = .ok (.iload_n 2, 1) := by decide +kernel
theorem dX9_slips_13 : decode cX9_slips 13 = .ok (.iconst 0, 1) := by decide +kernel
theorem dX9_slips_14 : decode cX9_slips 14 = .ok (.sipush 255, 3) := by decide +kernel
theorem dX9_slips_17 : decode cX9_slips 17 = .ok (.invokestatic 87, 3) := by decide +kernel
theorem dX9_slips_20 : decode cX9_slips 20 = .ok (.ifCond .eq 7, 3) := by decide +kernel
theorem dX9_slips_23 : decode cX9_slips 23 = .ok (.iconst 1, 1) := by decide +kernel
theorem dX9_slips_24 : decode cX9_slips 24 = .ok (.goto 4, 3) := by decide +kernel
theorem dX9_slips_27 : decode cX9_slips 27 = .ok (.iconst 0, 1) := by decide +kernel
theorem dX9_slips_28 : decode cX9_slips 28 = .ok (.invokevirtual 91, 3) := by decide +kernel
theorem dX9_slips_31 : decode cX9_slips 31 = .ok (.iload_n 1, 1) := by decide +kernel
theorem dX9_slips_32 : decode cX9_slips 32 = .ok (.iload_n 2, 1) := by decide +kernel
theorem dX9_slips_33 : decode cX9_slips 33 = .ok (.ixor, 1) := by decide +kernel
theorem dX9_slips_34 : decode cX9_slips 34 = .ok (.invokestatic 221, 3) := by decide +kernel
theorem dX9_slips_37 : decode cX9_slips 37 = .ok (.ireturn, 1) := by decide +kernel
theorem dX9_near_0 : decode cX9_near 0 = .ok (.aload_n 0, 1) := by decide +kernel
theorem dX9_near_1 : decode cX9_near 1 = .ok (.iload_n 1, 1) := by decide +kernel
theorem dX9_near_2 : decode cX9_near 2 = .ok (.iload_n 2, 1) := by decide +kernel
theorem dX9_near_3 : decode cX9_near 3 = .ok (.invokevirtual 256, 3) := by decide +kernel
theorem dX9_near_6 : decode cX9_near 6 = .ok (.aload_n 0, 1) := by decide +kernel
theorem dX9_near_7 : decode cX9_near 7 = .ok (.getfield 19, 3) := by decide +kernel
theorem dX9_near_10 : decode cX9_near 10 = .ok (.aload_n 0, 1) := by decide +kernel
theorem dX9_near_11 : decode cX9_near 11 = .ok (.getfield 26, 3) := by decide +kernel
theorem dX9_near_14 : decode cX9_near 14 = .ok (.getfield 208, 3) := by decide +kernel
theorem dX9_near_17 : decode cX9_near 17 = .ok (.iload_n 1, 1) := by decide +kernel
theorem dX9_near_18 : decode cX9_near 18 = .ok (.iaload, 1) := by decide +kernel
theorem dX9_near_19 : decode cX9_near 19 = .ok (.iload_n 2, 1) := by decide +kernel
theorem dX9_near_20 : decode cX9_near 20 = .ok (.invokevirtual 260, 3) := by decide +kernel
theorem dX9_near_23 : decode cX9_near 23 = .ok (.ireturn, 1) := by decide +kernel
theorem dX9_fee_0 : decode cX9_fee 0 = .ok (.aload_n 0, 1) := by decide +kernel
theorem dX9_fee_1 : decode cX9_fee 1 = .ok (.iload_n 1, 1) := by decide +kernel
theorem dX9_fee_2 : decode cX9_fee 2 = .ok (.iload_n 2, 1) := by decide +kernel
theorem dX9_fee_3 : decode cX9_fee 3 = .ok (.invokevirtual 256, 3) := by decide +kernel
theorem dX9_fee_6 : decode cX9_fee 6 = .ok (.aload_n 0, 1) := by decide +kernel
theorem dX9_fee_7 : decode cX9_fee 7 = .ok (.getfield 19, 3) := by decide +kernel
theorem dX9_fee_10 : decode cX9_fee 10 = .ok (.aload_n 0, 1) := by decide +kernel
theorem dX9_fee_11 : decode cX9_fee 11 = .ok (.getfield 26, 3) := by decide +kernel
theorem dX9_fee_14 : decode cX9_fee 14 = .ok (.iload_n 1, 1) := by decide +kernel
theorem dX9_fee_15 : decode cX9_fee 15 = .ok (.iload_n 2, 1) := by decide +kernel
theorem dX9_fee_16 : decode cX9_fee 16 = .ok (.aload_n 0, 1) := by decide +kernel
theorem dX9_fee_17 : decode cX9_fee 17 = .ok (.getfield 26, 3) := by decide +kernel
theorem dX9_fee_20 : decode cX9_fee 20 = .ok (.getfield 242, 3) := by decide +kernel
theorem dX9_fee_23 : decode cX9_fee 23 = .ok (.iload_n 2, 1) := by decide +kernel
theorem dX9_fee_24 : decode cX9_fee 24 = .ok (.iaload, 1) := by decide +kernel
theorem dX9_fee_25 : decode cX9_fee 25 = .ok (.invokevirtual 263, 3) := by decide +kernel
theorem dX9_fee_28 : decode cX9_fee 28 = .ok (.ireturn, 1) := by decide +kernel
theorem dX9_would_0 : decode cX9_would 0 = .ok (.aload_n 0, 1) := by decide +kernel
theorem dX9_would_1 : decode cX9_would 1 = .ok (.iload_n 1, 1) := by decide +kernel
theorem dX9_would_2 : decode cX9_would 2 = .ok (.iconst 0, 1) := by decide +kernel
theorem dX9_would_3 : decode cX9_would 3 = .ok (.bipush 40, 2) := by decide +kernel
theorem dX9_would_5 : decode cX9_would 5 = .ok (.invokestatic 87, 3) := by decide +kernel
theorem dX9_would_8 : decode cX9_would 8 = .ok (.ifCond .eq 85, 3) := by decide +kernel
theorem dX9_would_11 : decode cX9_would 11 = .ok (.iload_n 2, 1) := by decide +kernel
theorem dX9_would_12 : decode cX9_would 12 = .ok (.iconst 0, 1) := by decide +kernel
theorem dX9_would_13 : decode cX9_would 13 = .ok (.bipush 8, 2) := by decide +kernel
theorem dX9_would_15 : decode cX9_would 15 = .ok (.invokestatic 87, 3) := by decide +kernel
theorem dX9_would_18 : decode cX9_would 18 = .ok (.ifCond .eq 75, 3) := by decide +kernel
theorem dX9_would_21 : decode cX9_would 21 = .ok (.iload_n 3, 1) := by decide +kernel
theorem dX9_would_22 : decode cX9_would 22 = .ok (.iconst 0, 1) := by decide +kernel
theorem dX9_would_23 : decode cX9_would 23 = .ok (.bipush 8, 2) := by decide +kernel
theorem dX9_would_25 : decode cX9_would 25 = .ok (.invokestatic 87, 3) := by decide +kernel
theorem dX9_would_28 : decode cX9_would 28 = .ok (.ifCond .eq 65, 3) := by decide +kernel
theorem dX9_would_31 : decode cX9_would 31 = .ok (.iload 4, 2) := by decide +kernel
theorem dX9_would_33 : decode cX9_would 33 = .ok (.iconst 0, 1) := by decide +kernel
theorem dX9_would_34 : decode cX9_would 34 = .ok (.sipush 400, 3) := by decide +kernel
theorem dX9_would_37 : decode cX9_would 37 = .ok (.invokestatic 87, 3) := by decide +kernel
theorem dX9_would_40 : decode cX9_would 40 = .ok (.ifCond .eq 53, 3) := by decide +kernel
theorem dX9_would_43 : decode cX9_would 43 = .ok (.iload 5, 2) := by decide +kernel
theorem dX9_would_45 : decode cX9_would 45 = .ok (.iconst 0, 1) := by decide +kernel
theorem dX9_would_46 : decode cX9_would 46 = .ok (.sipush 999, 3) := by decide +kernel
theorem dX9_would_49 : decode cX9_would 49 = .ok (.invokestatic 87, 3) := by decide +kernel
theorem dX9_would_52 : decode cX9_would 52 = .ok (.ifCond .eq 41, 3) := by decide +kernel
theorem dX9_would_55 : decode cX9_would 55 = .ok (.iload 6, 2) := by decide +kernel
theorem dX9_would_57 : decode cX9_would 57 = .ok (.iconst 0, 1) := by decide +kernel
theorem dX9_would_58 : decode cX9_would 58 = .ok (.sipush 999, 3) := by decide +kernel
theorem dX9_would_61 : decode cX9_would 61 = .ok (.invokestatic 87, 3) := by decide +kernel
theorem dX9_would_64 : decode cX9_would 64 = .ok (.ifCond .eq 29, 3) := by decide +kernel
theorem dX9_would_67 : decode cX9_would 67 = .ok (.iload 7, 2) := by decide +kernel
theorem dX9_would_69 : decode cX9_would 69 = .ok (.iconst 0, 1) := by decide +kernel
theorem dX9_would_70 : decode cX9_would 70 = .ok (.sipush 255, 3) := by decide +kernel
theorem dX9_would_73 : decode cX9_would 73 = .ok (.invokestatic 87, 3) := by decide +kernel
theorem dX9_would_76 : decode cX9_would 76 = .ok (.ifCond .eq 17, 3) := by decide +kernel
theorem dX9_would_79 : decode cX9_would 79 = .ok (.iload 8, 2) := by decide +kernel
theorem dX9_would_81 : decode cX9_would 81 = .ok (.iconst 0, 1) := by decide +kernel
theorem dX9_would_82 : decode cX9_would 82 = .ok (.iconst 4, 1) := by decide +kernel
theorem dX9_would_83 : decode cX9_would 83 = .ok (.invokestatic 87, 3) := by decide +kernel
theorem dX9_would_86 : decode cX9_would 86 = .ok (.ifCond .eq 7, 3) := by decide +kernel
theorem dX9_would_89 : decode cX9_would 89 = .ok (.iconst 1, 1) := by decide +kernel
theorem dX9_would_90 : decode cX9_would 90 = .ok (.goto 4, 3) := by decide +kernel
theorem dX9_would_93 : decode cX9_would 93 = .ok (.iconst 0, 1) := by decide +kernel
theorem dX9_would_94 : decode cX9_would 94 = .ok (.invokevirtual 91, 3) := by decide +kernel
theorem dX9_would_97 : decode cX9_would 97 = .ok (.aload_n 0, 1) := by decide +kernel
theorem dX9_would_98 : decode cX9_would 98 = .ok (.getfield 19, 3) := by decide +kernel
theorem dX9_would_101 : decode cX9_would 101 = .ok (.getfield 267, 3) := by decide +kernel
theorem dX9_would_104 : decode cX9_would 104 = .ok (.astore 9, 2) := by decide +kernel
theorem dX9_would_106 : decode cX9_would 106 = .ok (.aload 9, 2) := by decide +kernel
theorem dX9_would_108 : decode cX9_would 108 = .ok (.iconst 0, 1) := by decide +kernel
theorem dX9_would_109 : decode cX9_would 109 = .ok (.iload_n 1, 1) := by decide +kernel
theorem dX9_would_110 : decode cX9_would 110 = .ok (.iastore, 1) := by decide +kernel
theorem dX9_would_111 : decode cX9_would 111 = .ok (.aload 9, 2) := by decide +kernel
theorem dX9_would_113 : decode cX9_would 113 = .ok (.iconst 1, 1) := by decide +kernel
theorem dX9_would_114 : decode cX9_would 114 = .ok (.iload_n 2, 1) := by decide +kernel
theorem dX9_would_115 : decode cX9_would 115 = .ok (.iastore, 1) := by decide +kernel
theorem dX9_would_116 : decode cX9_would 116 = .ok (.aload 9, 2) := by decide +kernel
theorem dX9_would_118 : decode cX9_would 118 = .ok (.iconst 2, 1) := by decide +kernel
theorem dX9_would_119 : decode cX9_would 119 = .ok (.iload_n 3, 1) := by decide +kernel
theorem dX9_would_120 : decode cX9_would 120 = .ok (.iastore, 1) := by decide +kernel
theorem dX9_would_121 : decode cX9_would 121 = .ok (.aload 9, 2) := by decide +kernel
theorem dX9_would_123 : decode cX9_would 123 = .ok (.iconst 3, 1) := by decide +kernel
theorem dX9_would_124 : decode cX9_would 124 = .ok (.iload 4, 2) := by decide +kernel
theorem dX9_would_126 : decode cX9_would 126 = .ok (.iastore, 1) := by decide +kernel
theorem dX9_would_127 : decode cX9_would 127 = .ok (.aload 9, 2) := by decide +kernel
theorem dX9_would_129 : decode cX9_would 129 = .ok (.iconst 4, 1) := by decide +kernel
theorem dX9_would_130 : decode cX9_would 130 = .ok (.iload 5, 2) := by decide +kernel
theorem dX9_would_132 : decode cX9_would 132 = .ok (.iastore, 1) := by decide +kernel
theorem dX9_would_133 : decode cX9_would 133 = .ok (.aload 9, 2) := by decide +kernel
theorem dX9_would_135 : decode cX9_would 135 = .ok (.iconst 5, 1) := by decide +kernel
theorem dX9_would_136 : decode cX9_would 136 = .ok (.iload 6, 2) := by decide +kernel
theorem dX9_would_138 : decode cX9_would 138 = .ok (.iastore, 1) := by decide +kernel
theorem dX9_would_139 : decode cX9_would 139 = .ok (.aload 9, 2) := by decide +kernel
theorem dX9_would_141 : decode cX9_would 141 = .ok (.bipush 6, 2) := by decide +kernel
theorem dX9_would_143 : decode cX9_would 143 = .ok (.iload 7, 2) := by decide +kernel
theorem dX9_would_145 : decode cX9_would 145 = .ok (.iastore, 1) := by decide +kernel
theorem dX9_would_146 : decode cX9_would 146 = .ok (.aload 9, 2) := by decide +kernel
theorem dX9_would_148 : decode cX9_would 148 = .ok (.bipush 7, 2) := by decide +kernel
theorem dX9_would_150 : decode cX9_would 150 = .ok (.iload 8, 2) := by decide +kernel
theorem dX9_would_152 : decode cX9_would 152 = .ok (.iastore, 1) := by decide +kernel
theorem dX9_would_153 : decode cX9_would 153 = .ok (.aload_n 0, 1) := by decide +kernel
theorem dX9_would_154 : decode cX9_would 154 = .ok (.getfield 19, 3) := by decide +kernel
theorem dX9_would_157 : decode cX9_would 157 = .ok (.getfield 115, 3) := by decide +kernel
theorem dX9_would_160 : decode cX9_would 160 = .ok (.aload 9, 2) := by decide +kernel
theorem dX9_would_162 : decode cX9_would 162 = .ok (.invokevirtual 270, 3) := by decide +kernel
theorem dX9_would_165 : decode cX9_would 165 = .ok (.ireturn, 1) := by decide +kernel
theorem dX9_can_0 : decode cX9_can 0 = .ok (.aload_n 0, 1) := by decide +kernel
theorem dX9_can_1 : decode cX9_can 1 = .ok (.iload_n 1, 1) := by decide +kernel
theorem dX9_can_2 : decode cX9_can 2 = .ok (.iload_n 2, 1) := by decide +kernel
theorem dX9_can_3 : decode cX9_can 3 = .ok (.invokevirtual 256, 3) := by decide +kernel
theorem dX9_can_6 : decode cX9_can 6 = .ok (.aload_n 0, 1) := by decide +kernel
theorem dX9_can_7 : decode cX9_can 7 = .ok (.getfield 19, 3) := by decide +kernel
theorem dX9_can_10 : decode cX9_can 10 = .ok (.aload_n 0, 1) := by decide +kernel
theorem dX9_can_11 : decode cX9_can 11 = .ok (.getfield 26, 3) := by decide +kernel
theorem dX9_can_14 : decode cX9_can 14 = .ok (.iload_n 1, 1) := by decide +kernel
theorem dX9_can_15 : decode cX9_can 15 = .ok (.iload_n 2, 1) := by decide +kernel
theorem dX9_can_16 : decode cX9_can 16 = .ok (.invokevirtual 274, 3) := by decide +kernel
theorem dX9_can_19 : decode cX9_can 19 = .ok (.iconst (-1), 1) := by decide +kernel
theorem dX9_can_20 : decode cX9_can 20 = .ok (.if_icmp .eq 7, 3) := by decide +kernel
theorem dX9_can_23 : decode cX9_can 23 = .ok (.iconst 1, 1) := by decide +kernel
theorem dX9_can_24 : decode cX9_can 24 = .ok (.goto 4, 3) := by decide +kernel
theorem dX9_can_27 : decode cX9_can 27 = .ok (.iconst 0, 1) := by decide +kernel
theorem dX9_can_28 : decode cX9_can 28 = .ok (.ireturn, 1) := by decide +kernel
theorem dX9_strokes_0 : decode cX9_strokes 0 = .ok (.aload_n 0, 1) := by decide +kernel
theorem dX9_strokes_1 : decode cX9_strokes 1 = .ok (.iload_n 1, 1) := by decide +kernel
theorem dX9_strokes_2 : decode cX9_strokes 2 = .ok (.iload_n 2, 1) := by decide +kernel
theorem dX9_strokes_3 : decode cX9_strokes 3 = .ok (.invokevirtual 256, 3) := by decide +kernel
theorem dX9_strokes_6 : decode cX9_strokes 6 = .ok (.aload_n 0, 1) := by decide +kernel
theorem dX9_strokes_7 : decode cX9_strokes 7 = .ok (.iload_n 3, 1) := by decide +kernel
theorem dX9_strokes_8 : decode cX9_strokes 8 = .ok (.iconst 0, 1) := by decide +kernel
theorem dX9_strokes_9 : decode cX9_strokes 9 = .ok (.iconst 1, 1) := by decide +kernel
theorem dX9_strokes_10 : decode cX9_strokes 10 = .ok (.invokestatic 87, 3) := by decide +kernel
theorem dX9_strokes_13 : decode cX9_strokes 13 = .ok (.invokevirtual 91, 3) := by decide +kernel
theorem dX9_strokes_16 : decode cX9_strokes 16 = .ok (.aload_n 0, 1) := by decide +kernel
theorem dX9_strokes_17 : decode cX9_strokes 17 = .ok (.getfield 19, 3) := by decide +kernel
theorem dX9_strokes_20 : decode cX9_strokes 20 = .ok (.aload_n 0, 1) := by decide +kernel
theorem dX9_strokes_21 : decode cX9_strokes 21 = .ok (.getfield 26, 3) := by decide +kernel
theorem dX9_strokes_24 : decode cX9_strokes 24 = .ok (.getfield 208, 3) := by decide +kernel
theorem dX9_strokes_27 : decode cX9_strokes 27 = .ok (.iload_n 1, 1) := by decide +kernel
theorem dX9_strokes_28 : decode cX9_strokes 28 = .ok (.iaload, 1) := by decide +kernel
theorem dX9_strokes_29 : decode cX9_strokes 29 = .ok (.iload_n 2, 1) := by decide +kernel
theorem dX9_strokes_30 : decode cX9_strokes 30 = .ok (.invokevirtual 278, 3) := by decide +kernel
theorem dX9_strokes_33 : decode cX9_strokes 33 = .ok (.istore 4, 2) := by decide +kernel
theorem dX9_strokes_35 : decode cX9_strokes 35 = .ok (.iload_n 3, 1) := by decide +kernel
theorem dX9_strokes_36 : decode cX9_strokes 36 = .ok (.ifCond .ne 17, 3) := by decide +kernel
theorem dX9_strokes_39 : decode cX9_strokes 39 = .ok (.iload 4, 2) := by decide +kernel
theorem dX9_strokes_41 : decode cX9_strokes 41 = .ok (.iconst (-1), 1) := by decide +kernel
theorem dX9_strokes_42 : decode cX9_strokes 42 = .ok (.if_icmp .eq 11, 3) := by decide +kernel
theorem dX9_strokes_45 : decode cX9_strokes 45 = .ok (.iload 4, 2) := by decide +kernel
theorem dX9_strokes_47 : decode cX9_strokes 47 = .ok (.invokestatic 221, 3) := by decide +kernel
theorem dX9_strokes_50 : decode cX9_strokes 50 = .ok (.goto 5, 3) := by decide +kernel
theorem dX9_strokes_53 : decode cX9_strokes 53 = .ok (.iload 4, 2) := by decide +kernel
theorem dX9_strokes_55 : decode cX9_strokes 55 = .ok (.ireturn, 1) := by decide +kernel
theorem dX9_twins_0 : decode cX9_twins 0 = .ok (.aload_n 0, 1) := by decide +kernel
theorem dX9_twins_1 : decode cX9_twins 1 = .ok (.iload_n 1, 1) := by decide +kernel
theorem dX9_twins_2 : decode cX9_twins 2 = .ok (.iconst 0, 1) := by decide +kernel
theorem dX9_twins_3 : decode cX9_twins 3 = .ok (.bipush 8, 2) := by decide +kernel
theorem dX9_twins_5 : decode cX9_twins 5 = .ok (.invokestatic 87, 3) := by decide +kernel
theorem dX9_twins_8 : decode cX9_twins 8 = .ok (.ifCond .eq 16, 3) := by decide +kernel
theorem dX9_twins_11 : decode cX9_twins 11 = .ok (.iload_n 2, 1) := by decide +kernel
theorem dX9_twins_12 : decode cX9_twins 12 = .ok (.iconst 0, 1) := by decide +kernel
theorem dX9_twins_13 : decode cX9_twins 13 = .ok (.iconst 1, 1) := by decide +kernel
theorem dX9_twins_14 : decode cX9_twins 14 = .ok (.invokestatic 87, 3) := by decide +kernel
theorem dX9_twins_17 : decode cX9_twins 17 = .ok (.ifCond .eq 7, 3) := by decide +kernel
theorem dX9_twins_20 : decode cX9_twins 20 = .ok (.iconst 1, 1) := by decide +kernel
theorem dX9_twins_21 : decode cX9_twins 21 = .ok (.goto 4, 3) := by decide +kernel
theorem dX9_twins_24 : decode cX9_twins 24 = .ok (.iconst 0, 1) := by decide +kernel
theorem dX9_twins_25 : decode cX9_twins 25 = .ok (.invokevirtual 91, 3) := by decide +kernel
theorem dX9_twins_28 : decode cX9_twins 28 = .ok (.iconst 0, 1) := by decide +kernel
theorem dX9_twins_29 : decode cX9_twins 29 = .ok (.istore_n 3, 1) := by decide +kernel
theorem dX9_twins_30 : decode cX9_twins 30 = .ok (.iconst (-1), 1) := by decide +kernel
theorem dX9_twins_31 : decode cX9_twins 31 = .ok (.istore 4, 2) := by decide +kernel
theorem dX9_twins_33 : decode cX9_twins 33 = .ok (.iconst 0, 1) := by decide +kernel
theorem dX9_twins_34 : decode cX9_twins 34 = .ok (.istore 5, 2) := by decide +kernel
theorem dX9_twins_36 : decode cX9_twins 36 = .ok (.iload 5, 2) := by decide +kernel
theorem dX9_twins_38 : decode cX9_twins 38 = .ok (.aload_n 0, 1) := by decide +kernel
theorem dX9_twins_39 : decode cX9_twins 39 = .ok (.getfield 26, 3) := by decide +kernel
theorem dX9_twins_42 : decode cX9_twins 42 = .ok (.getfield 130, 3) := by decide +kernel
theorem dX9_twins_45 : decode cX9_twins 45 = .ok (.if_icmp .ge 83, 3) := by decide +kernel
theorem dX9_twins_48 : decode cX9_twins 48 = .ok (.iload 5, 2) := by decide +kernel
theorem dX9_twins_50 : decode cX9_twins 50 = .ok (.iconst 1, 1) := by decide +kernel
theorem dX9_twins_51 : decode cX9_twins 51 = .ok (.iadd, 1) := by decide +kernel
theorem dX9_twins_52 : decode cX9_twins 52 = .ok (.istore 6, 2) := by decide +kernel
theorem dX9_twins_54 : decode cX9_twins 54 = .ok (.iload 6, 2) := by decide +kernel
theorem dX9_twins_56 : decode cX9_twins 56 = .ok (.aload_n 0, 1) := by decide +kernel
theorem dX9_twins_57 : decode cX9_twins 57 = .ok (.getfield 26, 3) := by decide +kernel
theorem dX9_twins_60 : decode cX9_twins 60 = .ok (.getfield 130, 3) := by decide +kernel
theorem dX9_twins_63 : decode cX9_twins 63 = .ok (.if_icmp .ge 59, 3) := by decide +kernel
theorem dX9_twins_66 : decode cX9_twins 66 = .ok (.aload_n 0, 1) := by decide +kernel
theorem dX9_twins_67 : decode cX9_twins 67 = .ok (.getfield 26, 3) := by decide +kernel
theorem dX9_twins_70 : decode cX9_twins 70 = .ok (.getfield 208, 3) := by decide +kernel
theorem dX9_twins_73 : decode cX9_twins 73 = .ok (.iload 5, 2) := by decide +kernel
theorem dX9_twins_75 : decode cX9_twins 75 = .ok (.iaload, 1) := by decide +kernel
theorem dX9_twins_76 : decode cX9_twins 76 = .ok (.aload_n 0, 1) := by decide +kernel
theorem dX9_twins_77 : decode cX9_twins 77 = .ok (.getfield 26, 3) := by decide +kernel
theorem dX9_twins_80 : decode cX9_twins 80 = .ok (.getfield 208, 3) := by decide +kernel
theorem dX9_twins_83 : decode cX9_twins 83 = .ok (.iload 6, 2) := by decide +kernel
theorem dX9_twins_85 : decode cX9_twins 85 = .ok (.iaload, 1) := by decide +kernel
theorem dX9_twins_86 : decode cX9_twins 86 = .ok (.ixor, 1) := by decide +kernel
theorem dX9_twins_87 : decode cX9_twins 87 = .ok (.invokestatic 221, 3) := by decide +kernel
theorem dX9_twins_90 : decode cX9_twins 90 = .ok (.iload_n 1, 1) := by decide +kernel
theorem dX9_twins_91 : decode cX9_twins 91 = .ok (.if_icmp .gt 25, 3) := by decide +kernel
theorem dX9_twins_94 : decode cX9_twins 94 = .ok (.iload_n 3, 1) := by decide +kernel
theorem dX9_twins_95 : decode cX9_twins 95 = .ok (.ifCond .ne 14, 3) := by decide +kernel
theorem dX9_twins_98 : decode cX9_twins 98 = .ok (.bipush 10, 2) := by decide +kernel
theorem dX9_twins_100 : decode cX9_twins 100 = .ok (.iload 5, 2) := by decide +kernel
theorem dX9_twins_102 : decode cX9_twins 102 = .ok (.imul, 1) := by decide +kernel
theorem dX9_twins_103 : decode cX9_twins 103 = .ok (.iload 6, 2) := by decide +kernel
theorem dX9_twins_105 : decode cX9_twins 105 = .ok (.iadd, 1) := by decide +kernel
theorem dX9_twins_106 : decode cX9_twins 106 = .ok (.goto 5, 3) := by decide +kernel
theorem dX9_twins_109 : decode cX9_twins 109 = .ok (.iload 4, 2) := by decide +kernel
theorem dX9_twins_111 : decode cX9_twins 111 = .ok (.istore 4, 2) := by decide +kernel
theorem dX9_twins_113 : decode cX9_twins 113 = .ok (.iinc 3 1, 3) := by decide +kernel
theorem dX9_twins_116 : decode cX9_twins 116 = .ok (.iinc 6 1, 3) := by decide +kernel
theorem dX9_twins_119 : decode cX9_twins 119 = .ok (.goto (-65), 3) := by decide +kernel
theorem dX9_twins_122 : decode cX9_twins 122 = .ok (.iinc 5 1, 3) := by decide +kernel
theorem dX9_twins_125 : decode cX9_twins 125 = .ok (.goto (-89), 3) := by decide +kernel
theorem dX9_twins_128 : decode cX9_twins 128 = .ok (.iload_n 2, 1) := by decide +kernel
theorem dX9_twins_129 : decode cX9_twins 129 = .ok (.ifCond .ne 7, 3) := by decide +kernel
theorem dX9_twins_132 : decode cX9_twins 132 = .ok (.iload_n 3, 1) := by decide +kernel
theorem dX9_twins_133 : decode cX9_twins 133 = .ok (.goto 5, 3) := by decide +kernel
theorem dX9_twins_136 : decode cX9_twins 136 = .ok (.iload 4, 2) := by decide +kernel
theorem dX9_twins_138 : decode cX9_twins 138 = .ok (.ireturn, 1) := by decide +kernel
theorem dX9_code_0 : decode cX9_code 0 = .ok (.aload_n 0, 1) := by decide +kernel
theorem dX9_code_1 : decode cX9_code 1 = .ok (.iload_n 1, 1) := by decide +kernel
theorem dX9_code_2 : decode cX9_code 2 = .ok (.iconst 1, 1) := by decide +kernel
theorem dX9_code_3 : decode cX9_code 3 = .ok (.iconst 4, 1) := by decide +kernel
theorem dX9_code_4 : decode cX9_code 4 = .ok (.invokestatic 87, 3) := by decide +kernel
theorem dX9_code_7 : decode cX9_code 7 = .ok (.ifCond .eq 25, 3) := by decide +kernel
theorem dX9_code_10 : decode cX9_code 10 = .ok (.iload_n 2, 1) := by decide +kernel
theorem dX9_code_11 : decode cX9_code 11 = .ok (.iconst 1, 1) := by decide +kernel
theorem dX9_code_12 : decode cX9_code 12 = .ok (.iconst 4, 1) := by decide +kernel
theorem dX9_code_13 : decode cX9_code 13 = .ok (.invokestatic 87, 3) := by decide +kernel
theorem dX9_code_16 : decode cX9_code 16 = .ok (.ifCond .eq 16, 3) := by decide +kernel
theorem dX9_code_19 : decode cX9_code 19 = .ok (.iload_n 3, 1) := by decide +kernel
theorem dX9_code_20 : decode cX9_code 20 = .ok (.iconst 0, 1) := by decide +kernel
theorem dX9_code_21 : decode cX9_code 21 = .ok (.iconst 1, 1) := by decide +kernel
theorem dX9_code_22 : decode cX9_code 22 = .ok (.invokestatic 87, 3) := by decide +kernel
theorem dX9_code_25 : decode cX9_code 25 = .ok (.ifCond .eq 7, 3) := by decide +kernel
theorem dX9_code_28 : decode cX9_code 28 = .ok (.iconst 1, 1) := by decide +kernel
theorem dX9_code_29 : decode cX9_code 29 = .ok (.goto 4, 3) := by decide +kernel
theorem dX9_code_32 : decode cX9_code 32 = .ok (.iconst 0, 1) := by decide +kernel
theorem dX9_code_33 : decode cX9_code 33 = .ok (.invokevirtual 91, 3) := by decide +kernel
theorem dX9_code_36 : decode cX9_code 36 = .ok (.aload_n 0, 1) := by decide +kernel
theorem dX9_code_37 : decode cX9_code 37 = .ok (.getfield 64, 3) := by decide +kernel
theorem dX9_code_40 : decode cX9_code 40 = .ok (.iconst 1, 1) := by decide +kernel
theorem dX9_code_41 : decode cX9_code 41 = .ok (.iload_n 1, 1) := by decide +kernel
theorem dX9_code_42 : decode cX9_code 42 = .ok (.ishl, 1) := by decide +kernel
theorem dX9_code_43 : decode cX9_code 43 = .ok (.iload_n 2, 1) := by decide +kernel
theorem dX9_code_44 : decode cX9_code 44 = .ok (.invokevirtual 281, 3) := by decide +kernel
theorem dX9_code_47 : decode cX9_code 47 = .ok (.istore 4, 2) := by decide +kernel
theorem dX9_code_49 : decode cX9_code 49 = .ok (.iload_n 3, 1) := by decide +kernel
theorem dX9_code_50 : decode cX9_code 50 = .ok (.ifCond .ne 11, 3) := by decide +kernel
theorem dX9_code_53 : decode cX9_code 53 = .ok (.iload 4, 2) := by decide +kernel
theorem dX9_code_55 : decode cX9_code 55 = .ok (.invokestatic 221, 3) := by decide +kernel
theorem dX9_code_58 : decode cX9_code 58 = .ok (.goto 5, 3) := by decide +kernel
theorem dX9_code_61 : decode cX9_code 61 = .ok (.iload 4, 2) := by decide +kernel
theorem dX9_code_63 : decode cX9_code 63 = .ok (.ireturn, 1) := by decide +kernel
theorem dX9_parents_0 : decode cX9_parents 0 = .ok (.aload_n 0, 1) := by decide +kernel
theorem dX9_parents_1 : decode cX9_parents 1 = .ok (.iload_n 1, 1) := by decide +kernel
theorem dX9_parents_2 : decode cX9_parents 2 = .ok (.iconst 0, 1) := by decide +kernel
theorem dX9_parents_3 : decode cX9_parents 3 = .ok (.sipush 255, 3) := by decide +kernel
theorem dX9_parents_6 : decode cX9_parents 6 = .ok (.invokestatic 87, 3) := by decide +kernel
theorem dX9_parents_9 : decode cX9_parents 9 = .ok (.ifCond .eq 16, 3) := by decide +kernel
theorem dX9_parents_12 : decode cX9_parents 12 = .ok (.iload_n 2, 1) := by decide +kernel
theorem dX9_parents_13 : decode cX9_parents 13 = .ok (.iconst 0, 1) := by decide +kernel
theorem dX9_parents_14 : decode cX9_parents 14 = .ok (.iconst 1, 1) := by decide +kernel
theorem dX9_parents_15 : decode cX9_parents 15 = .ok (.invokestatic 87, 3) := by decide +kernel
theorem dX9_parents_18 : decode cX9_parents 18 = .ok (.ifCond .eq 7, 3) := by decide +kernel
theorem dX9_parents_21 : decode cX9_parents 21 = .ok (.iconst 1, 1) := by decide +kernel
theorem dX9_parents_22 : decode cX9_parents 22 = .ok (.goto 4, 3) := by decide +kernel
theorem dX9_parents_25 : decode cX9_parents 25 = .ok (.iconst 0, 1) := by decide +kernel
theorem dX9_parents_26 : decode cX9_parents 26 = .ok (.invokevirtual 91, 3) := by decide +kernel
theorem dX9_parents_29 : decode cX9_parents 29 = .ok (.iconst 0, 1) := by decide +kernel
theorem dX9_parents_30 : decode cX9_parents 30 = .ok (.istore_n 3, 1) := by decide +kernel
theorem dX9_parents_31 : decode cX9_parents 31 = .ok (.iconst (-1), 1) := by decide +kernel
theorem dX9_parents_32 : decode cX9_parents 32 = .ok (.istore 4, 2) := by decide +kernel
theorem dX9_parents_34 : decode cX9_parents 34 = .ok (.iconst 0, 1) := by decide +kernel
theorem dX9_parents_35 : decode cX9_parents 35 = .ok (.istore 5, 2) := by decide +kernel
theorem dX9_parents_37 : decode cX9_parents 37 = .ok (.iload 5, 2) := by decide +kernel
theorem dX9_parents_39 : decode cX9_parents 39 = .ok (.aload_n 0, 1) := by decide +kernel
theorem dX9_parents_40 : decode cX9_parents 40 = .ok (.getfield 26, 3) := by decide +kernel
theorem dX9_parents_43 : decode cX9_parents 43 = .ok (.getfield 130, 3) := by decide +kernel
theorem dX9_parents_46 : decode cX9_parents 46 = .ok (.if_icmp .ge 70, 3) := by decide +kernel
theorem dX9_parents_49 : decode cX9_parents 49 = .ok (.iload 5, 2) := by decide +kernel
theorem dX9_parents_51 : decode cX9_parents 51 = .ok (.iconst 1, 1) := by decide +kernel
theorem dX9_parents_52 : decode cX9_parents 52 = .ok (.iadd, 1) := by decide +kernel
theorem dX9_parents_53 : decode cX9_parents 53 = .ok (.istore 6, 2) := by decide +kernel
theorem dX9_parents_55 : decode cX9_parents 55 = .ok (.iload 6, 2) := by decide +kernel
theorem dX9_parents_57 : decode cX9_parents 57 = .ok (.aload_n 0, 1) := by decide +kernel
theorem dX9_parents_58 : decode cX9_parents 58 = .ok (.getfield 26, 3) := by decide +kernel
theorem dX9_parents_61 : decode cX9_parents 61 = .ok (.getfield 130, 3) := by decide +kernel
theorem dX9_parents_64 : decode cX9_parents 64 = .ok (.if_icmp .ge 46, 3) := by decide +kernel
theorem dX9_parents_67 : decode cX9_parents 67 = .ok (.aload_n 0, 1) := by decide +kernel
theorem dX9_parents_68 : decode cX9_parents 68 = .ok (.getfield 26, 3) := by decide +kernel
theorem dX9_parents_71 : decode cX9_parents 71 = .ok (.iload 5, 2) := by decide +kernel
theorem dX9_parents_73 : decode cX9_parents 73 = .ok (.iload 6, 2) := by decide +kernel
theorem dX9_parents_75 : decode cX9_parents 75 = .ok (.invokevirtual 284, 3) := by decide +kernel
theorem dX9_parents_78 : decode cX9_parents 78 = .ok (.iload_n 1, 1) := by decide +kernel
theorem dX9_parents_79 : decode cX9_parents 79 = .ok (.if_icmp .ne 25, 3) := by decide +kernel
theorem dX9_parents_82 : decode cX9_parents 82 = .ok (.iload_n 3, 1) := by decide +kernel
theorem dX9_parents_83 : decode cX9_parents 83 = .ok (.ifCond .ne 14, 3) := by decide +kernel
theorem dX9_parents_86 : decode cX9_parents 86 = .ok (.bipush 10, 2) := by decide +kernel
theorem dX9_parents_88 : decode cX9_parents 88 = .ok (.iload 5, 2) := by decide +kernel
theorem dX9_parents_90 : decode cX9_parents 90 = .ok (.imul, 1) := by decide +kernel
theorem dX9_parents_91 : decode cX9_parents 91 = .ok (.iload 6, 2) := by decide +kernel
theorem dX9_parents_93 : decode cX9_parents 93 = .ok (.iadd, 1) := by decide +kernel
theorem dX9_parents_94 : decode cX9_parents 94 = .ok (.goto 5, 3) := by decide +kernel
theorem dX9_parents_97 : decode cX9_parents 97 = .ok (.iload 4, 2) := by decide +kernel
theorem dX9_parents_99 : decode cX9_parents 99 = .ok (.istore 4, 2) := by decide +kernel
theorem dX9_parents_101 : decode cX9_parents 101 = .ok (.iinc 3 1, 3) := by decide +kernel
theorem dX9_parents_104 : decode cX9_parents 104 = .ok (.iinc 6 1, 3) := by decide +kernel
theorem dX9_parents_107 : decode cX9_parents 107 = .ok (.goto (-52), 3) := by decide +kernel
theorem dX9_parents_110 : decode cX9_parents 110 = .ok (.iinc 5 1, 3) := by decide +kernel
theorem dX9_parents_113 : decode cX9_parents 113 = .ok (.goto (-76), 3) := by decide +kernel
theorem dX9_parents_116 : decode cX9_parents 116 = .ok (.iload_n 2, 1) := by decide +kernel
theorem dX9_parents_117 : decode cX9_parents 117 = .ok (.ifCond .ne 7, 3) := by decide +kernel
theorem dX9_parents_120 : decode cX9_parents 120 = .ok (.iload_n 3, 1) := by decide +kernel
theorem dX9_parents_121 : decode cX9_parents 121 = .ok (.goto 5, 3) := by decide +kernel
theorem dX9_parents_124 : decode cX9_parents 124 = .ok (.iload 4, 2) := by decide +kernel
theorem dX9_parents_126 : decode cX9_parents 126 = .ok (.ireturn, 1) := by decide +kernel
theorem dX9_herd_0 : decode cX9_herd 0 = .ok (.aload_n 0, 1) := by decide +kernel
theorem dX9_herd_1 : decode cX9_herd 1 = .ok (.iload_n 1, 1) := by decide +kernel
theorem dX9_herd_2 : decode cX9_herd 2 = .ok (.iconst 0, 1) := by decide +kernel
theorem dX9_herd_3 : decode cX9_herd 3 = .ok (.sipush 2040, 3) := by decide +kernel
theorem dX9_herd_6 : decode cX9_herd 6 = .ok (.invokestatic 87, 3) := by decide +kernel
theorem dX9_herd_9 : decode cX9_herd 9 = .ok (.ifCond .eq 16, 3) := by decide +kernel
theorem dX9_herd_12 : decode cX9_herd 12 = .ok (.iload_n 2, 1) := by decide +kernel
theorem dX9_herd_13 : decode cX9_herd 13 = .ok (.iconst 0, 1) := by decide +kernel
theorem dX9_herd_14 : decode cX9_herd 14 = .ok (.iconst 2, 1) := by decide +kernel
theorem dX9_herd_15 : decode cX9_herd 15 = .ok (.invokestatic 87, 3) := by decide +kernel
theorem dX9_herd_18 : decode cX9_herd 18 = .ok (.ifCond .eq 7, 3) := by decide +kernel
theorem dX9_herd_21 : decode cX9_herd 21 = .ok (.iconst 1, 1) := by decide +kernel
theorem dX9_herd_22 : decode cX9_herd 22 = .ok (.goto 4, 3) := by decide +kernel
theorem dX9_herd_25 : decode cX9_herd 25 = .ok (.iconst 0, 1) := by decide +kernel
theorem dX9_herd_26 : decode cX9_herd 26 = .ok (.invokevirtual 91, 3) := by decide +kernel
theorem dX9_herd_29 : decode cX9_herd 29 = .ok (.aload_n 0, 1) := by decide +kernel
theorem dX9_herd_30 : decode cX9_herd 30 = .ok (.getfield 64, 3) := by decide +kernel
theorem dX9_herd_33 : decode cX9_herd 33 = .ok (.aload_n 0, 1) := by decide +kernel
theorem dX9_herd_34 : decode cX9_herd 34 = .ok (.getfield 26, 3) := by decide +kernel
theorem dX9_herd_37 : decode cX9_herd 37 = .ok (.iload_n 1, 1) := by decide +kernel
theorem dX9_herd_38 : decode cX9_herd 38 = .ok (.invokevirtual 287, 3) := by decide +kernel
theorem dX9_herd_41 : decode cX9_herd 41 = .ok (.iload_n 2, 1) := by decide +kernel
theorem dX9_herd_42 : decode cX9_herd 42 = .ok (.ifCond .ne 11, 3) := by decide +kernel
theorem dX9_herd_45 : decode cX9_herd 45 = .ok (.aload_n 0, 1) := by decide +kernel
theorem dX9_herd_46 : decode cX9_herd 46 = .ok (.getfield 64, 3) := by decide +kernel
theorem dX9_herd_49 : decode cX9_herd 49 = .ok (.getfield 291, 3) := by decide +kernel
theorem dX9_herd_52 : decode cX9_herd 52 = .ok (.ireturn, 1) := by decide +kernel
theorem dX9_herd_53 : decode cX9_herd 53 = .ok (.iload_n 2, 1) := by decide +kernel
theorem dX9_herd_54 : decode cX9_herd 54 = .ok (.iconst 1, 1) := by decide +kernel
theorem dX9_herd_55 : decode cX9_herd 55 = .ok (.if_icmp .ne 13, 3) := by decide +kernel
theorem dX9_herd_58 : decode cX9_herd 58 = .ok (.aload_n 0, 1) := by decide +kernel
theorem dX9_herd_59 : decode cX9_herd 59 = .ok (.getfield 64, 3) := by decide +kernel
theorem dX9_herd_62 : decode cX9_herd 62 = .ok (.getfield 294, 3) := by decide +kernel
theorem dX9_herd_65 : decode cX9_herd 65 = .ok (.goto 10, 3) := by decide +kernel
theorem dX9_herd_68 : decode cX9_herd 68 = .ok (.aload_n 0, 1) := by decide +kernel
theorem dX9_herd_69 : decode cX9_herd 69 = .ok (.getfield 64, 3) := by decide +kernel
theorem dX9_herd_72 : decode cX9_herd 72 = .ok (.getfield 297, 3) := by decide +kernel
theorem dX9_herd_75 : decode cX9_herd 75 = .ok (.ireturn, 1) := by decide +kernel
theorem dX9_ask_0 : decode cX9_ask 0 = .ok (.aload_n 0, 1) := by decide +kernel
theorem dX9_ask_1 : decode cX9_ask 1 = .ok (.iload_n 1, 1) := by decide +kernel
theorem dX9_ask_2 : decode cX9_ask 2 = .ok (.iconst 0, 1) := by decide +kernel
theorem dX9_ask_3 : decode cX9_ask 3 = .ok (.sipush 2040, 3) := by decide +kernel
theorem dX9_ask_6 : decode cX9_ask 6 = .ok (.invokestatic 87, 3) := by decide +kernel
theorem dX9_ask_9 : decode cX9_ask 9 = .ok (.ifCond .eq 16, 3) := by decide +kernel
theorem dX9_ask_12 : decode cX9_ask 12 = .ok (.iload_n 2, 1) := by decide +kernel
theorem dX9_ask_13 : decode cX9_ask 13 = .ok (.iconst 0, 1) := by decide +kernel
theorem dX9_ask_14 : decode cX9_ask 14 = .ok (.iconst 1, 1) := by decide +kernel
theorem dX9_ask_15 : decode cX9_ask 15 = .ok (.invokestatic 87, 3) := by decide +kernel
theorem dX9_ask_18 : decode cX9_ask 18 = .ok (.ifCond .eq 7, 3) := by decide +kernel
theorem dX9_ask_21 : decode cX9_ask 21 = .ok (.iconst 1, 1) := by decide +kernel
theorem dX9_ask_22 : decode cX9_ask 22 = .ok (.goto 4, 3) := by decide +kernel
theorem dX9_ask_25 : decode cX9_ask 25 = .ok (.iconst 0, 1) := by decide +kernel
theorem dX9_ask_26 : decode cX9_ask 26 = .ok (.invokevirtual 91, 3) := by decide +kernel
theorem dX9_ask_29 : decode cX9_ask 29 = .ok (.aload_n 0, 1) := by decide +kernel
theorem dX9_ask_30 : decode cX9_ask 30 = .ok (.getfield 64, 3) := by decide +kernel
theorem dX9_ask_33 : decode cX9_ask 33 = .ok (.aload_n 0, 1) := by decide +kernel
theorem dX9_ask_34 : decode cX9_ask 34 = .ok (.getfield 26, 3) := by decide +kernel
theorem dX9_ask_37 : decode cX9_ask 37 = .ok (.iload_n 1, 1) := by decide +kernel
theorem dX9_ask_38 : decode cX9_ask 38 = .ok (.invokevirtual 287, 3) := by decide +kernel
theorem dX9_ask_41 : decode cX9_ask 41 = .ok (.iconst (-1), 1) := by decide +kernel
theorem dX9_ask_42 : decode cX9_ask 42 = .ok (.istore_n 3, 1) := by decide +kernel
theorem dX9_ask_43 : decode cX9_ask 43 = .ok (.iconst (-1), 1) := by decide +kernel
theorem dX9_ask_44 : decode cX9_ask 44 = .ok (.istore 4, 2) := by decide +kernel
theorem dX9_ask_46 : decode cX9_ask 46 = .ok (.iconst 0, 1) := by decide +kernel
theorem dX9_ask_47 : decode cX9_ask 47 = .ok (.istore 5, 2) := by decide +kernel
theorem dX9_ask_49 : decode cX9_ask 49 = .ok (.iload 5, 2) := by decide +kernel
theorem dX9_ask_51 : decode cX9_ask 51 = .ok (.aload_n 0, 1) := by decide +kernel
theorem dX9_ask_52 : decode cX9_ask 52 = .ok (.getfield 26, 3) := by decide +kernel
theorem dX9_ask_55 : decode cX9_ask 55 = .ok (.getfield 130, 3) := by decide +kernel
theorem dX9_ask_58 : decode cX9_ask 58 = .ok (.if_icmp .ge 61, 3) := by decide +kernel
theorem dX9_ask_61 : decode cX9_ask 61 = .ok (.aload_n 0, 1) := by decide +kernel
theorem dX9_ask_62 : decode cX9_ask 62 = .ok (.getfield 64, 3) := by decide +kernel
theorem dX9_ask_65 : decode cX9_ask 65 = .ok (.getfield 300, 3) := by decide +kernel
theorem dX9_ask_68 : decode cX9_ask 68 = .ok (.iload 5, 2) := by decide +kernel
theorem dX9_ask_70 : decode cX9_ask 70 = .ok (.iaload, 1) := by decide +kernel
theorem dX9_ask_71 : decode cX9_ask 71 = .ok (.aload_n 0, 1) := by decide +kernel
theorem dX9_ask_72 : decode cX9_ask 72 = .ok (.getfield 64, 3) := by decide +kernel
theorem dX9_ask_75 : decode cX9_ask 75 = .ok (.getfield 291, 3) := by decide +kernel
theorem dX9_ask_78 : decode cX9_ask 78 = .ok (.aload_n 0, 1) := by decide +kernel
theorem dX9_ask_79 : decode cX9_ask 79 = .ok (.getfield 64, 3) := by decide +kernel
theorem dX9_ask_82 : decode cX9_ask 82 = .ok (.getfield 300, 3) := by decide +kernel
theorem dX9_ask_85 : decode cX9_ask 85 = .ok (.iload 5, 2) := by decide +kernel
theorem dX9_ask_87 : decode cX9_ask 87 = .ok (.iaload, 1) := by decide +kernel
theorem dX9_ask_88 : decode cX9_ask 88 = .ok (.isub, 1) := by decide +kernel
theorem dX9_ask_89 : decode cX9_ask 89 = .ok (.invokestatic 303, 3) := by decide +kernel
theorem dX9_ask_92 : decode cX9_ask 92 = .ok (.istore 6, 2) := by decide +kernel
theorem dX9_ask_94 : decode cX9_ask 94 = .ok (.iload_n 3, 1) := by decide +kernel
theorem dX9_ask_95 : decode cX9_ask 95 = .ok (.iconst (-1), 1) := by decide +kernel
theorem dX9_ask_96 : decode cX9_ask 96 = .ok (.if_icmp .eq 10, 3) := by decide +kernel
theorem dX9_ask_99 : decode cX9_ask 99 = .ok (.iload 6, 2) := by decide +kernel
theorem dX9_ask_101 : decode cX9_ask 101 = .ok (.iload 4, 2) := by decide +kernel
theorem dX9_ask_103 : decode cX9_ask 103 = .ok (.if_icmp .ge 10, 3) := by decide +kernel
theorem dX9_ask_106 : decode cX9_ask 106 = .ok (.iload 5, 2) := by decide +kernel
theorem dX9_ask_108 : decode cX9_ask 108 = .ok (.istore_n 3, 1) := by decide +kernel
theorem dX9_ask_109 : decode cX9_ask 109 = .ok (.iload 6, 2) := by decide +kernel
theorem dX9_ask_111 : decode cX9_ask 111 = .ok (.istore 4, 2) := by decide +kernel
theorem dX9_ask_113 : decode cX9_ask 113 = .ok (.iinc 5 1, 3) := by decide +kernel
theorem dX9_ask_116 : decode cX9_ask 116 = .ok (.goto (-67), 3) := by decide +kernel
theorem dX9_ask_119 : decode cX9_ask 119 = .ok (.iload_n 2, 1) := by decide +kernel
theorem dX9_ask_120 : decode cX9_ask 120 = .ok (.ifCond .ne 7, 3) := by decide +kernel
theorem dX9_ask_123 : decode cX9_ask 123 = .ok (.iload_n 3, 1) := by decide +kernel
theorem dX9_ask_124 : decode cX9_ask 124 = .ok (.goto 5, 3) := by decide +kernel
theorem dX9_ask_127 : decode cX9_ask 127 = .ok (.iload 4, 2) := by decide +kernel
theorem dX9_ask_129 : decode cX9_ask 129 = .ok (.ireturn, 1) := by decide +kernel
theorem dX9_cover_0 : decode cX9_cover 0 = .ok (.aload_n 0, 1) := by decide +kernel
theorem dX9_cover_1 : decode cX9_cover 1 = .ok (.aload_n 0, 1) := by decide +kernel
theorem dX9_cover_2 : decode cX9_cover 2 = .ok (.iload_n 1, 1) := by decide +kernel
theorem dX9_cover_3 : decode cX9_cover 3 = .ok (.invokevirtual 306, 3) := by decide +kernel
theorem dX9_cover_6 : decode cX9_cover 6 = .ok (.invokevirtual 91, 3) := by decide +kernel
theorem dX9_cover_9 : decode cX9_cover 9 = .ok (.iconst (-1), 1) := by decide +kernel
theorem dX9_cover_10 : decode cX9_cover 10 = .ok (.istore_n 2, 1) := by decide +kernel
theorem dX9_cover_11 : decode cX9_cover 11 = .ok (.iconst 0, 1) := by decide +kernel
theorem dX9_cover_12 : decode cX9_cover 12 = .ok (.istore_n 3, 1) := by decide +kernel
theorem dX9_cover_13 : decode cX9_cover 13 = .ok (.iload_n 3, 1) := by decide +kernel
theorem dX9_cover_14 : decode cX9_cover 14 = .ok (.iconst 1, 1) := by decide +kernel
theorem dX9_cover_15 : decode cX9_cover 15 = .ok (.aload_n 0, 1) := by decide +kernel
theorem dX9_cover_16 : decode cX9_cover 16 = .ok (.getfield 19, 3) := by decide +kernel
theorem dX9_cover_19 : decode cX9_cover 19 = .ok (.getfield 108, 3) := by decide +kernel
theorem dX9_cover_22 : decode cX9_cover 22 = .ok (.getfield 153, 3) := by decide +kernel
theorem dX9_cover_25 : decode cX9_cover 25 = .ok (.ishl, 1) := by decide +kernel
theorem dX9_cover_26 : decode cX9_cover 26 = .ok (.if_icmp .ge 51, 3) := by decide +kernel
theorem dX9_cover_29 : decode cX9_cover 29 = .ok (.iload_n 2, 1) := by decide +kernel
theorem dX9_cover_30 : decode cX9_cover 30 = .ok (.iconst (-1), 1) := by decide +kernel
theorem dX9_cover_31 : decode cX9_cover 31 = .ok (.if_icmp .eq 14, 3) := by decide +kernel
theorem dX9_cover_34 : decode cX9_cover 34 = .ok (.iload_n 3, 1) := by decide +kernel
theorem dX9_cover_35 : decode cX9_cover 35 = .ok (.invokestatic 221, 3) := by decide +kernel
theorem dX9_cover_38 : decode cX9_cover 38 = .ok (.iload_n 2, 1) := by decide +kernel
theorem dX9_cover_39 : decode cX9_cover 39 = .ok (.invokestatic 221, 3) := by decide +kernel
theorem dX9_cover_42 : decode cX9_cover 42 = .ok (.if_icmp .ge 7, 3) := by decide +kernel
theorem dX9_cover_45 : decode cX9_cover 45 = .ok (.iconst 1, 1) := by decide +kernel
theorem dX9_cover_46 : decode cX9_cover 46 = .ok (.goto 4, 3) := by decide +kernel
theorem dX9_cover_49 : decode cX9_cover 49 = .ok (.iconst 0, 1) := by decide +kernel
theorem dX9_cover_50 : decode cX9_cover 50 = .ok (.istore 4, 2) := by decide +kernel
theorem dX9_cover_52 : decode cX9_cover 52 = .ok (.iload 4, 2) := by decide +kernel
theorem dX9_cover_54 : decode cX9_cover 54 = .ok (.ifCond .eq 17, 3) := by decide +kernel
theorem dX9_cover_57 : decode cX9_cover 57 = .ok (.iload_n 1, 1) := by decide +kernel
theorem dX9_cover_58 : decode cX9_cover 58 = .ok (.aload_n 0, 1) := by decide +kernel
theorem dX9_cover_59 : decode cX9_cover 59 = .ok (.iload_n 3, 1) := by decide +kernel
theorem dX9_cover_60 : decode cX9_cover 60 = .ok (.invokevirtual 310, 3) := by decide +kernel
theorem dX9_cover_63 : decode cX9_cover 63 = .ok (.iconst (-1), 1) := by decide +kernel
theorem dX9_cover_64 : decode cX9_cover 64 = .ok (.ixor, 1) := by decide +kernel
theorem dX9_cover_65 : decode cX9_cover 65 = .ok (.iand, 1) := by decide +kernel
theorem dX9_cover_66 : decode cX9_cover 66 = .ok (.ifCond .ne 5, 3) := by decide +kernel
theorem dX9_cover_69 : decode cX9_cover 69 = .ok (.iload_n 3, 1) := by decide +kernel
theorem dX9_cover_70 : decode cX9_cover 70 = .ok (.istore_n 2, 1) := by decide +kernel
theorem dX9_cover_71 : decode cX9_cover 71 = .ok (.iinc 3 1, 3) := by decide +kernel
theorem dX9_cover_74 : decode cX9_cover 74 = .ok (.goto (-61), 3) := by decide +kernel
theorem dX9_cover_77 : decode cX9_cover 77 = .ok (.iload_n 2, 1) := by decide +kernel
theorem dX9_cover_78 : decode cX9_cover 78 = .ok (.ireturn, 1) := by decide +kernel
theorem dX9_list_0 : decode cX9_list 0 = .ok (.aload_n 0, 1) := by decide +kernel
theorem dX9_list_1 : decode cX9_list 1 = .ok (.aload_n 0, 1) := by decide +kernel
theorem dX9_list_2 : decode cX9_list 2 = .ok (.iload_n 1, 1) := by decide +kernel
theorem dX9_list_3 : decode cX9_list 3 = .ok (.invokevirtual 306, 3) := by decide +kernel
theorem dX9_list_6 : decode cX9_list 6 = .ok (.ifCond .eq 16, 3) := by decide +kernel
theorem dX9_list_9 : decode cX9_list 9 = .ok (.iload_n 2, 1) := by decide +kernel
theorem dX9_list_10 : decode cX9_list 10 = .ok (.iconst 0, 1) := by decide +kernel
theorem dX9_list_11 : decode cX9_list 11 = .ok (.iconst 3, 1) := by decide +kernel
theorem dX9_list_12 : decode cX9_list 12 = .ok (.invokestatic 87, 3) := by decide +kernel
theorem dX9_list_15 : decode cX9_list 15 = .ok (.ifCond .eq 7, 3) := by decide +kernel
theorem dX9_list_18 : decode cX9_list 18 = .ok (.iconst 1, 1) := by decide +kernel
theorem dX9_list_19 : decode cX9_list 19 = .ok (.goto 4, 3) := by decide +kernel
theorem dX9_list_22 : decode cX9_list 22 = .ok (.iconst 0, 1) := by decide +kernel
theorem dX9_list_23 : decode cX9_list 23 = .ok (.invokevirtual 91, 3) := by decide +kernel
theorem dX9_list_26 : decode cX9_list 26 = .ok (.aload_n 0, 1) := by decide +kernel
theorem dX9_list_27 : decode cX9_list 27 = .ok (.getfield 64, 3) := by decide +kernel
theorem dX9_list_30 : decode cX9_list 30 = .ok (.aload_n 0, 1) := by decide +kernel
theorem dX9_list_31 : decode cX9_list 31 = .ok (.getfield 26, 3) := by decide +kernel
theorem dX9_list_34 : decode cX9_list 34 = .ok (.iload_n 1, 1) := by decide +kernel
theorem dX9_list_35 : decode cX9_list 35 = .ok (.iload_n 2, 1) := by decide +kernel
theorem dX9_list_36 : decode cX9_list 36 = .ok (.invokevirtual 313, 3) := by decide +kernel
theorem dX9_list_39 : decode cX9_list 39 = .ok (.ireturn, 1) := by decide +kernel
theorem dX9_file_0 : decode cX9_file 0 = .ok (.aload_n 0, 1) := by decide +kernel
theorem dX9_file_1 : decode cX9_file 1 = .ok (.iload_n 1, 1) := by decide +kernel
theorem dX9_file_2 : decode cX9_file 2 = .ok (.invokevirtual 230, 3) := by decide +kernel
theorem dX9_file_5 : decode cX9_file 5 = .ok (.aload_n 0, 1) := by decide +kernel
theorem dX9_file_6 : decode cX9_file 6 = .ok (.aload_n 0, 1) := by decide +kernel
theorem dX9_file_7 : decode cX9_file 7 = .ok (.iload_n 2, 1) := by decide +kernel
theorem dX9_file_8 : decode cX9_file 8 = .ok (.invokevirtual 306, 3) := by decide +kernel
theorem dX9_file_11 : decode cX9_file 11 = .ok (.invokevirtual 91, 3) := by decide +kernel
theorem dX9_file_14 : decode cX9_file 14 = .ok (.aload_n 0, 1) := by decide +kernel
theorem dX9_file_15 : decode cX9_file 15 = .ok (.getfield 19, 3) := by decide +kernel
theorem dX9_file_18 : decode cX9_file 18 = .ok (.getfield 108, 3) := by decide +kernel
theorem dX9_file_21 : decode cX9_file 21 = .ok (.getfield 239, 3) := by decide +kernel
theorem dX9_file_24 : decode cX9_file 24 = .ok (.iload_n 1, 1) := by decide +kernel
theorem dX9_file_25 : decode cX9_file 25 = .ok (.iaload, 1) := by decide +kernel
theorem dX9_file_26 : decode cX9_file 26 = .ok (.ifCond .ne 5, 3) := by decide +kernel
theorem dX9_file_29 : decode cX9_file 29 = .ok (.iconst (-1), 1) := by decide +kernel
theorem dX9_file_30 : decode cX9_file 30 = .ok (.ireturn, 1) := by decide +kernel
theorem dX9_file_31 : decode cX9_file 31 = .ok (.aload_n 0, 1) := by decide +kernel
theorem dX9_file_32 : decode cX9_file 32 = .ok (.getfield 64, 3) := by decide +kernel
theorem dX9_file_35 : decode cX9_file 35 = .ok (.aload_n 0, 1) := by decide +kernel
theorem dX9_file_36 : decode cX9_file 36 = .ok (.getfield 19, 3) := by decide +kernel
theorem dX9_file_39 : decode cX9_file 39 = .ok (.aload_n 0, 1) := by decide +kernel
theorem dX9_file_40 : decode cX9_file 40 = .ok (.getfield 26, 3) := by decide +kernel
theorem dX9_file_43 : decode cX9_file 43 = .ok (.iload_n 1, 1) := by decide +kernel
theorem dX9_file_44 : decode cX9_file 44 = .ok (.iload_n 2, 1) := by decide +kernel
theorem dX9_file_45 : decode cX9_file 45 = .ok (.invokevirtual 316, 3) := by decide +kernel
theorem dX9_file_48 : decode cX9_file 48 = .ok (.ireturn, 1) := by decide +kernel
theorem dX9_filed_0 : decode cX9_filed 0 = .ok (.aload_n 0, 1) := by decide +kernel
theorem dX9_filed_1 : decode cX9_filed 1 = .ok (.iload_n 1, 1) := by decide +kernel
theorem dX9_filed_2 : decode cX9_filed 2 = .ok (.invokevirtual 230, 3) := by decide +kernel
theorem dX9_filed_5 : decode cX9_filed 5 = .ok (.aload_n 0, 1) := by decide +kernel
theorem dX9_filed_6 : decode cX9_filed 6 = .ok (.aload_n 0, 1) := by decide +kernel
theorem dX9_filed_7 : decode cX9_filed 7 = .ok (.iload_n 2, 1) := by decide +kernel
theorem dX9_filed_8 : decode cX9_filed 8 = .ok (.invokevirtual 306, 3) := by decide +kernel
theorem dX9_filed_11 : decode cX9_filed 11 = .ok (.ifCond .eq 11, 3) := by decide +kernel
theorem dX9_filed_14 : decode cX9_filed 14 = .ok (.iload_n 3, 1) := by decide +kernel
theorem dX9_filed_15 : decode cX9_filed 15 = .ok (.ifCond .lt 7, 3) := by decide +kernel
theorem dX9_filed_18 : decode cX9_filed 18 = .ok (.iconst 1, 1) := by decide +kernel
theorem dX9_filed_19 : decode cX9_filed 19 = .ok (.goto 4, 3) := by decide +kernel
theorem dX9_filed_22 : decode cX9_filed 22 = .ok (.iconst 0, 1) := by decide +kernel
theorem dX9_filed_23 : decode cX9_filed 23 = .ok (.invokevirtual 91, 3) := by decide +kernel
theorem dX9_filed_26 : decode cX9_filed 26 = .ok (.aload_n 0, 1) := by decide +kernel
theorem dX9_filed_27 : decode cX9_filed 27 = .ok (.getfield 19, 3) := by decide +kernel
theorem dX9_filed_30 : decode cX9_filed 30 = .ok (.getfield 108, 3) := by decide +kernel
theorem dX9_filed_33 : decode cX9_filed 33 = .ok (.getfield 239, 3) := by decide +kernel
theorem dX9_filed_36 : decode cX9_filed 36 = .ok (.iload_n 1, 1) := by decide +kernel
theorem dX9_filed_37 : decode cX9_filed 37 = .ok (.iaload, 1) := by decide +kernel
theorem dX9_filed_38 : decode cX9_filed 38 = .ok (.ifCond .eq 11, 3) := by decide +kernel
theorem dX9_filed_41 : decode cX9_filed 41 = .ok (.iload_n 3, 1) := by decide +kernel
theorem dX9_filed_42 : decode cX9_filed 42 = .ok (.iload_n 2, 1) := by decide +kernel
theorem dX9_filed_43 : decode cX9_filed 43 = .ok (.invokestatic 221, 3) := by decide +kernel
theorem dX9_filed_46 : decode cX9_filed 46 = .ok (.if_icmp .lt 5, 3) := by decide +kernel
theorem dX9_filed_49 : decode cX9_filed 49 = .ok (.iconst (-1), 1) := by decide +kernel
theorem dX9_filed_50 : decode cX9_filed 50 = .ok (.ireturn, 1) := by decide +kernel
theorem dX9_filed_51 : decode cX9_filed 51 = .ok (.aload_n 0, 1) := by decide +kernel
theorem dX9_filed_52 : decode cX9_filed 52 = .ok (.getfield 64, 3) := by decide +kernel
theorem dX9_filed_55 : decode cX9_filed 55 = .ok (.aload_n 0, 1) := by decide +kernel
theorem dX9_filed_56 : decode cX9_filed 56 = .ok (.getfield 19, 3) := by decide +kernel
theorem dX9_filed_59 : decode cX9_filed 59 = .ok (.aload_n 0, 1) := by decide +kernel
theorem dX9_filed_60 : decode cX9_filed 60 = .ok (.getfield 26, 3) := by decide +kernel
theorem dX9_filed_63 : decode cX9_filed 63 = .ok (.iload_n 1, 1) := by decide +kernel
theorem dX9_filed_64 : decode cX9_filed 64 = .ok (.iload_n 2, 1) := by decide +kernel
theorem dX9_filed_65 : decode cX9_filed 65 = .ok (.invokevirtual 316, 3) := by decide +kernel
theorem dX9_filed_68 : decode cX9_filed 68 = .ok (.pop, 1) := by decide +kernel
theorem dX9_filed_69 : decode cX9_filed 69 = .ok (.aload_n 0, 1) := by decide +kernel
theorem dX9_filed_70 : decode cX9_filed 70 = .ok (.getfield 64, 3) := by decide +kernel
theorem dX9_filed_73 : decode cX9_filed 73 = .ok (.iload_n 2, 1) := by decide +kernel
theorem dX9_filed_74 : decode cX9_filed 74 = .ok (.iload_n 3, 1) := by decide +kernel
theorem dX9_filed_75 : decode cX9_filed 75 = .ok (.invokevirtual 320, 3) := by decide +kernel
theorem dX9_filed_78 : decode cX9_filed 78 = .ok (.ireturn, 1) := by decide +kernel
theorem dX9_fog_0 : decode cX9_fog 0 = .ok (.aload_n 0, 1) := by decide +kernel
theorem dX9_fog_1 : decode cX9_fog 1 = .ok (.iload_n 1, 1) := by decide +kernel
theorem dX9_fog_2 : decode cX9_fog 2 = .ok (.iload_n 2, 1) := by decide +kernel
theorem dX9_fog_3 : decode cX9_fog 3 = .ok (.invokevirtual 256, 3) := by decide +kernel
theorem dX9_fog_6 : decode cX9_fog 6 = .ok (.aload_n 0, 1) := by decide +kernel
theorem dX9_fog_7 : decode cX9_fog 7 = .ok (.iload_n 3, 1) := by decide +kernel
theorem dX9_fog_8 : decode cX9_fog 8 = .ok (.iconst 0, 1) := by decide +kernel
theorem dX9_fog_9 : decode cX9_fog 9 = .ok (.bipush 16, 2) := by decide +kernel
theorem dX9_fog_11 : decode cX9_fog 11 = .ok (.invokestatic 87, 3) := by decide +kernel
theorem dX9_fog_14 : decode cX9_fog 14 = .ok (.ifCond .eq 17, 3) := by decide +kernel
theorem dX9_fog_17 : decode cX9_fog 17 = .ok (.iload 4, 2) := by decide +kernel
theorem dX9_fog_19 : decode cX9_fog 19 = .ok (.iconst 0, 1) := by decide +kernel
theorem dX9_fog_20 : decode cX9_fog 20 = .ok (.iconst 1, 1) := by decide +kernel
theorem dX9_fog_21 : decode cX9_fog 21 = .ok (.invokestatic 87, 3) := by decide +kernel
theorem dX9_fog_24 : decode cX9_fog 24 = .ok (.ifCond .eq 7, 3) := by decide +kernel
theorem dX9_fog_27 : decode cX9_fog 27 = .ok (.iconst 1, 1) := by decide +kernel
theorem dX9_fog_28 : decode cX9_fog 28 = .ok (.goto 4, 3) := by decide +kernel
theorem dX9_fog_31 : decode cX9_fog 31 = .ok (.iconst 0, 1) := by decide +kernel
theorem dX9_fog_32 : decode cX9_fog 32 = .ok (.invokevirtual 91, 3) := by decide +kernel
theorem dX9_fog_35 : decode cX9_fog 35 = .ok (.aload_n 0, 1) := by decide +kernel
theorem dX9_fog_36 : decode cX9_fog 36 = .ok (.getfield 19, 3) := by decide +kernel
theorem dX9_fog_39 : decode cX9_fog 39 = .ok (.aload_n 0, 1) := by decide +kernel
theorem dX9_fog_40 : decode cX9_fog 40 = .ok (.getfield 26, 3) := by decide +kernel
theorem dX9_fog_43 : decode cX9_fog 43 = .ok (.getfield 208, 3) := by decide +kernel
theorem dX9_fog_46 : decode cX9_fog 46 = .ok (.iload_n 1, 1) := by decide +kernel
theorem dX9_fog_47 : decode cX9_fog 47 = .ok (.iaload, 1) := by decide +kernel
theorem dX9_fog_48 : decode cX9_fog 48 = .ok (.iload_n 2, 1) := by decide +kernel
theorem dX9_fog_49 : decode cX9_fog 49 = .ok (.iload_n 3, 1) := by decide +kernel
theorem dX9_fog_50 : decode cX9_fog 50 = .ok (.invokevirtual 323, 3) := by decide +kernel
theorem dX9_fog_53 : decode cX9_fog 53 = .ok (.lstore 5, 2) := by decide +kernel
theorem dX9_fog_55 : decode cX9_fog 55 = .ok (.ldc2_w 327, 3) := by decide +kernel
theorem dX9_fog_58 : decode cX9_fog 58 = .ok (.lstore 7, 2) := by decide +kernel
theorem dX9_fog_60 : decode cX9_fog 60 = .ok (.iconst 0, 1) := by decide +kernel
theorem dX9_fog_61 : decode cX9_fog 61 = .ok (.istore 9, 2) := by decide +kernel
theorem dX9_fog_63 : decode cX9_fog 63 = .ok (.iload 9, 2) := by decide +kernel
theorem dX9_fog_65 : decode cX9_fog 65 = .ok (.bipush 32, 2) := by decide +kernel
theorem dX9_fog_67 : decode cX9_fog 67 = .ok (.if_icmp .ge 36, 3) := by decide +kernel
theorem dX9_fog_70 : decode cX9_fog 70 = .ok (.lload 5, 2) := by decide +kernel
theorem dX9_fog_72 : decode cX9_fog 72 = .ok (.ldc2_w 329, 3) := by decide +kernel
theorem dX9_fog_75 : decode cX9_fog 75 = .ok (.lrem, 1) := by decide +kernel
theorem dX9_fog_76 : decode cX9_fog 76 = .ok (.lconst 0, 1) := by decide +kernel
theorem dX9_fog_77 : decode cX9_fog 77 = .ok (.lcmp, 1) := by decide +kernel
theorem dX9_fog_78 : decode cX9_fog 78 = .ok (.ifCond .ne 25, 3) := by decide +kernel
theorem dX9_fog_81 : decode cX9_fog 81 = .ok (.lload 5, 2) := by decide +kernel
theorem dX9_fog_83 : decode cX9_fog 83 = .ok (.ldc2_w 329, 3) := by decide +kernel
theorem dX9_fog_86 : decode cX9_fog 86 = .ok (.ldiv, 1) := by decide +kernel
theorem dX9_fog_87 : decode cX9_fog 87 = .ok (.lstore 5, 2) := by decide +kernel
theorem dX9_fog_89 : decode cX9_fog 89 = .ok (.lload 7, 2) := by decide +kernel
theorem dX9_fog_91 : decode cX9_fog 91 = .ok (.ldc2_w 329, 3) := by decide +kernel
theorem dX9_fog_94 : decode cX9_fog 94 = .ok (.ldiv, 1) := by decide +kernel
theorem dX9_fog_95 : decode cX9_fog 95 = .ok (.lstore 7, 2) := by decide +kernel
theorem dX9_fog_97 : decode cX9_fog 97 = .ok (.iinc 9 1, 3) := by decide +kernel
theorem dX9_fog_100 : decode cX9_fog 100 = .ok (.goto (-37), 3) := by decide +kernel
theorem dX9_fog_103 : decode cX9_fog 103 = .ok (.iload 4, 2) := by decide +kernel
theorem dX9_fog_105 : decode cX9_fog 105 = .ok (.ifCond .ne 8, 3) := by decide +kernel
theorem dX9_fog_108 : decode cX9_fog 108 = .ok (.lload 5, 2) := by decide +kernel
theorem dX9_fog_110 : decode cX9_fog 110 = .ok (.goto 5, 3) := by decide +kernel
theorem dX9_fog_113 : decode cX9_fog 113 = .ok (.lload 7, 2) := by decide +kernel
theorem dX9_fog_115 : decode cX9_fog 115 = .ok (.lreturn, 1) := by decide +kernel
theorem dX9_dealers_0 : decode cX9_dealers 0 = .ok (.aload_n 0, 1) := by decide +kernel
theorem dX9_dealers_1 : decode cX9_dealers 1 = .ok (.iload_n 1, 1) := by decide +kernel
theorem dX9_dealers_2 : decode cX9_dealers 2 = .ok (.invokevirtual 205, 3) := by decide +kernel
theorem dX9_dealers_5 : decode cX9_dealers 5 = .ok (.aload_n 0, 1) := by decide +kernel
theorem dX9_dealers_6 : decode cX9_dealers 6 = .ok (.iload_n 2, 1) := by decide +kernel
theorem dX9_dealers_7 : decode cX9_dealers 7 = .ok (.invokevirtual 205, 3) := by decide +kernel
theorem dX9_dealers_10 : decode cX9_dealers 10 = .ok (.aload_n 0, 1) := by decide +kernel
theorem dX9_dealers_11 : decode cX9_dealers 11 = .ok (.iload_n 1, 1) := by decide +kernel
theorem dX9_dealers_12 : decode cX9_dealers 12 = .ok (.iload_n 2, 1) := by decide +kernel
theorem dX9_dealers_13 : decode cX9_dealers 13 = .ok (.if_icmp .eq 16, 3) := by decide +kernel
theorem dX9_dealers_16 : decode cX9_dealers 16 = .ok (.iload_n 3, 1) := by decide +kernel
theorem dX9_dealers_17 : decode cX9_dealers 17 = .ok (.iconst 0, 1) := by decide +kernel
theorem dX9_dealers_18 : decode cX9_dealers 18 = .ok (.iconst 2, 1) := by decide +kernel
theorem dX9_dealers_19 : decode cX9_dealers 19 = .ok (.invokestatic 87, 3) := by decide +kernel
theorem dX9_dealers_22 : decode cX9_dealers 22 = .ok (.ifCond .eq 7, 3) := by decide +kernel
theorem dX9_dealers_25 : decode cX9_dealers 25 = .ok (.iconst 1, 1) := by decide +kernel
theorem dX9_dealers_26 : decode cX9_dealers 26 = .ok (.goto 4, 3) := by decide +kernel
theorem dX9_dealers_29 : decode cX9_dealers 29 = .ok (.iconst 0, 1) := by decide +kernel
theorem dX9_dealers_30 : decode cX9_dealers 30 = .ok (.invokevirtual 91, 3) := by decide +kernel
theorem dX9_dealers_33 : decode cX9_dealers 33 = .ok (.aload_n 0, 1) := by decide +kernel
theorem dX9_dealers_34 : decode cX9_dealers 34 = .ok (.getfield 26, 3) := by decide +kernel
theorem dX9_dealers_37 : decode cX9_dealers 37 = .ok (.getfield 208, 3) := by decide +kernel
theorem dX9_dealers_40 : decode cX9_dealers 40 = .ok (.iload_n 1, 1) := by decide +kernel
theorem dX9_dealers_41 : decode cX9_dealers 41 = .ok (.iaload, 1) := by decide +kernel
theorem dX9_dealers_42 : decode cX9_dealers 42 = .ok (.aload_n 0, 1) := by decide +kernel
theorem dX9_dealers_43 : decode cX9_dealers 43 = .ok (.getfield 26, 3) := by decide +kernel
theorem dX9_dealers_46 : decode cX9_dealers 46 = .ok (.getfield 208, 3) := by decide +kernel
theorem dX9_dealers_49 : decode cX9_dealers 49 = .ok (.iload_n 2, 1) := by decide +kernel
theorem dX9_dealers_50 : decode cX9_dealers 50 = .ok (.iaload, 1) := by decide +kernel
theorem dX9_dealers_51 : decode cX9_dealers 51 = .ok (.ixor, 1) := by decide +kernel
theorem dX9_dealers_52 : decode cX9_dealers 52 = .ok (.istore 4, 2) := by decide +kernel
theorem dX9_dealers_54 : decode cX9_dealers 54 = .ok (.iconst 0, 1) := by decide +kernel
theorem dX9_dealers_55 : decode cX9_dealers 55 = .ok (.istore 5, 2) := by decide +kernel
theorem dX9_dealers_57 : decode cX9_dealers 57 = .ok (.iconst (-1), 1) := by decide +kernel
theorem dX9_dealers_58 : decode cX9_dealers 58 = .ok (.istore 6, 2) := by decide +kernel
theorem dX9_dealers_60 : decode cX9_dealers 60 = .ok (.iconst 0, 1) := by decide +kernel
theorem dX9_dealers_61 : decode cX9_dealers 61 = .ok (.istore 7, 2) := by decide +kernel
theorem dX9_dealers_63 : decode cX9_dealers 63 = .ok (.iload 7, 2) := by decide +kernel
theorem dX9_dealers_65 : decode cX9_dealers 65 = .ok (.bipush 81, 2) := by decide +kernel
theorem dX9_dealers_67 : decode cX9_dealers 67 = .ok (.if_icmp .ge 56, 3) := by decide +kernel
theorem dX9_dealers_70 : decode cX9_dealers 70 = .ok (.iload 4, 2) := by decide +kernel
theorem dX9_dealers_72 : decode cX9_dealers 72 = .ok (.iload 7, 2) := by decide +kernel
theorem dX9_dealers_74 : decode cX9_dealers 74 = .ok (.bipush 9, 2) := by decide +kernel
theorem dX9_dealers_76 : decode cX9_dealers 76 = .ok (.idiv, 1) := by decide +kernel
theorem dX9_dealers_77 : decode cX9_dealers 77 = .ok (.iload 7, 2) := by decide +kernel
theorem dX9_dealers_79 : decode cX9_dealers 79 = .ok (.bipush 9, 2) := by decide +kernel
theorem dX9_dealers_81 : decode cX9_dealers 81 = .ok (.irem, 1) := by decide +kernel
theorem dX9_dealers_82 : decode cX9_dealers 82 = .ok (.invokestatic 331, 3) := by decide +kernel
theorem dX9_dealers_85 : decode cX9_dealers 85 = .ok (.ifCond .eq 32, 3) := by decide +kernel
theorem dX9_dealers_88 : decode cX9_dealers 88 = .ok (.iload 5, 2) := by decide +kernel
theorem dX9_dealers_90 : decode cX9_dealers 90 = .ok (.ifCond .ne 20, 3) := by decide +kernel
theorem dX9_dealers_93 : decode cX9_dealers 93 = .ok (.bipush 10, 2) := by decide +kernel
theorem dX9_dealers_95 : decode cX9_dealers 95 = .ok (.iload 7, 2) := by decide +kernel
theorem dX9_dealers_97 : decode cX9_dealers 97 = .ok (.bipush 9, 2) := by decide +kernel
theorem dX9_dealers_99 : decode cX9_dealers 99 = .ok (.idiv, 1) := by decide +kernel
theorem dX9_dealers_100 : decode cX9_dealers 100 = .ok (.imul, 1) := by decide +kernel
theorem dX9_dealers_101 : decode cX9_dealers 101 = .ok (.iload 7, 2) := by decide +kernel
theorem dX9_dealers_103 : decode cX9_dealers 103 = .ok (.bipush 9, 2) := by decide +kernel
theorem dX9_dealers_105 : decode cX9_dealers 105 = .ok (.irem, 1) := by decide +kernel
theorem dX9_dealers_106 : decode cX9_dealers 106 = .ok (.iadd, 1) := by decide +kernel
theorem dX9_dealers_107 : decode cX9_dealers 107 = .ok (.goto 5, 3) := by decide +kernel
theorem dX9_dealers_110 : decode cX9_dealers 110 = .ok (.iload 6, 2) := by decide +kernel
theorem dX9_dealers_112 : decode cX9_dealers 112 = .ok (.istore 6, 2) := by decide +kernel
theorem dX9_dealers_114 : decode cX9_dealers 114 = .ok (.iinc 5 1, 3) := by decide +kernel
theorem dX9_dealers_117 : decode cX9_dealers 117 = .ok (.iinc 7 1, 3) := by decide +kernel
theorem dX9_dealers_120 : decode cX9_dealers 120 = .ok (.goto (-57), 3) := by decide +kernel
theorem dX9_dealers_123 : decode cX9_dealers 123 = .ok (.iload_n 3, 1) := by decide +kernel
theorem dX9_dealers_124 : decode cX9_dealers 124 = .ok (.iconst 2, 1) := by decide +kernel
theorem dX9_dealers_125 : decode cX9_dealers 125 = .ok (.if_icmp .ne 47, 3) := by decide +kernel
theorem dX9_dealers_128 : decode cX9_dealers 128 = .ok (.iload 6, 2) := by decide +kernel
theorem dX9_dealers_130 : decode cX9_dealers 130 = .ok (.bipush 10, 2) := by decide +kernel
theorem dX9_dealers_132 : decode cX9_dealers 132 = .ok (.idiv, 1) := by decide +kernel
theorem dX9_dealers_133 : decode cX9_dealers 133 = .ok (.istore 7, 2) := by decide +kernel
theorem dX9_dealers_135 : decode cX9_dealers 135 = .ok (.iload 6, 2) := by decide +kernel
theorem dX9_dealers_137 : decode cX9_dealers 137 = .ok (.bipush 10, 2) := by decide +kernel
theorem dX9_dealers_139 : decode cX9_dealers 139 = .ok (.irem, 1) := by decide +kernel
theorem dX9_dealers_140 : decode cX9_dealers 140 = .ok (.istore 8, 2) := by decide +kernel
theorem dX9_dealers_142 : decode cX9_dealers 142 = .ok (.iload 6, 2) := by decide +kernel
theorem dX9_dealers_144 : decode cX9_dealers 144 = .ok (.iconst (-1), 1) := by decide +kernel
theorem dX9_dealers_145 : decode cX9_dealers 145 = .ok (.if_icmp .ne 7, 3) := by decide +kernel
theorem dX9_dealers_148 : decode cX9_dealers 148 = .ok (.iconst 0, 1) := by decide +kernel
theorem dX9_dealers_149 : decode cX9_dealers 149 = .ok (.goto 22, 3) := by decide +kernel
theorem dX9_dealers_152 : decode cX9_dealers 152 = .ok (.iload 4, 2) := by decide +kernel
theorem dX9_dealers_154 : decode cX9_dealers 154 = .ok (.iload 7, 2) := by decide +kernel
theorem dX9_dealers_156 : decode cX9_dealers 156 = .ok (.iload 8, 2) := by decide +kernel
theorem dX9_dealers_158 : decode cX9_dealers 158 = .ok (.invokestatic 334, 3) := by decide +kernel
theorem dX9_dealers_161 : decode cX9_dealers 161 = .ok (.iload 4, 2) := by decide +kernel
theorem dX9_dealers_163 : decode cX9_dealers 163 = .ok (.iload 7, 2) := by decide +kernel
theorem dX9_dealers_165 : decode cX9_dealers 165 = .ok (.iload 8, 2) := by decide +kernel
theorem dX9_dealers_167 : decode cX9_dealers 167 = .ok (.invokestatic 338, 3) := by decide +kernel
theorem dX9_dealers_170 : decode cX9_dealers 170 = .ok (.iadd, 1) := by decide +kernel
theorem dX9_dealers_171 : decode cX9_dealers 171 = .ok (.ireturn, 1) := by decide +kernel
theorem dX9_dealers_172 : decode cX9_dealers 172 = .ok (.iload_n 3, 1) := by decide +kernel
theorem dX9_dealers_173 : decode cX9_dealers 173 = .ok (.ifCond .ne 8, 3) := by decide +kernel
theorem dX9_dealers_176 : decode cX9_dealers 176 = .ok (.iload 5, 2) := by decide +kernel
theorem dX9_dealers_178 : decode cX9_dealers 178 = .ok (.goto 5, 3) := by decide +kernel
theorem dX9_dealers_181 : decode cX9_dealers 181 = .ok (.iload 6, 2) := by decide +kernel
theorem dX9_dealers_183 : decode cX9_dealers 183 = .ok (.ireturn, 1) := by decide +kernel
theorem dX9_share_0 : decode cX9_share 0 = .ok (.aload_n 0, 1) := by decide +kernel
theorem dX9_share_1 : decode cX9_share 1 = .ok (.iload_n 1, 1) := by decide +kernel
theorem dX9_share_2 : decode cX9_share 2 = .ok (.invokevirtual 230, 3) := by decide +kernel
theorem dX9_share_5 : decode cX9_share 5 = .ok (.aload_n 0, 1) := by decide +kernel
theorem dX9_share_6 : decode cX9_share 6 = .ok (.iload_n 2, 1) := by decide +kernel
theorem dX9_share_7 : decode cX9_share 7 = .ok (.iconst 0, 1) := by decide +kernel
theorem dX9_share_8 : decode cX9_share 8 = .ok (.iconst 1, 1) := by decide +kernel
theorem dX9_share_9 : decode cX9_share 9 = .ok (.aload_n 0, 1) := by decide +kernel
theorem dX9_share_10 : decode cX9_share 10 = .ok (.getfield 19, 3) := by decide +kernel
theorem dX9_share_13 : decode cX9_share 13 = .ok (.getfield 108, 3) := by decide +kernel
theorem dX9_share_16 : decode cX9_share 16 = .ok (.getfield 153, 3) := by decide +kernel
theorem dX9_share_19 : decode cX9_share 19 = .ok (.ishl, 1) := by decide +kernel
theorem dX9_share_20 : decode cX9_share 20 = .ok (.iconst 1, 1) := by decide +kernel
theorem dX9_share_21 : decode cX9_share 21 = .ok (.isub, 1) := by decide +kernel
theorem dX9_share_22 : decode cX9_share 22 = .ok (.invokestatic 87, 3) := by decide +kernel
theorem dX9_share_25 : decode cX9_share 25 = .ok (.ifCond .eq 18, 3) := by decide +kernel
theorem dX9_share_28 : decode cX9_share 28 = .ok (.iload_n 3, 1) := by decide +kernel
theorem dX9_share_29 : decode cX9_share 29 = .ok (.iconst 0, 1) := by decide +kernel
theorem dX9_share_30 : decode cX9_share 30 = .ok (.sipush 999, 3) := by decide +kernel
theorem dX9_share_33 : decode cX9_share 33 = .ok (.invokestatic 87, 3) := by decide +kernel
theorem dX9_share_36 : decode cX9_share 36 = .ok (.ifCond .eq 7, 3) := by decide +kernel
theorem dX9_share_39 : decode cX9_share 39 = .ok (.iconst 1, 1) := by decide +kernel
theorem dX9_share_40 : decode cX9_share 40 = .ok (.goto 4, 3) := by decide +kernel
theorem dX9_share_43 : decode cX9_share 43 = .ok (.iconst 0, 1) := by decide +kernel
theorem dX9_share_44 : decode cX9_share 44 = .ok (.invokevirtual 91, 3) := by decide +kernel
theorem dX9_share_47 : decode cX9_share 47 = .ok (.iload_n 2, 1) := by decide +kernel
theorem dX9_share_48 : decode cX9_share 48 = .ok (.iload_n 1, 1) := by decide +kernel
theorem dX9_share_49 : decode cX9_share 49 = .ok (.ishr, 1) := by decide +kernel
theorem dX9_share_50 : decode cX9_share 50 = .ok (.iconst 1, 1) := by decide +kernel
theorem dX9_share_51 : decode cX9_share 51 = .ok (.iand, 1) := by decide +kernel
theorem dX9_share_52 : decode cX9_share 52 = .ok (.ifCond .ne 5, 3) := by decide +kernel
theorem dX9_share_55 : decode cX9_share 55 = .ok (.iconst 0, 1) := by decide +kernel
theorem dX9_share_56 : decode cX9_share 56 = .ok (.ireturn, 1) := by decide +kernel
theorem dX9_share_57 : decode cX9_share 57 = .ok (.iconst 0, 1) := by decide +kernel
theorem dX9_share_58 : decode cX9_share 58 = .ok (.istore 4, 2) := by decide +kernel
theorem dX9_share_60 : decode cX9_share 60 = .ok (.iload 4, 2) := by decide +kernel
theorem dX9_share_62 : decode cX9_share 62 = .ok (.sipush 999, 3) := by decide +kernel
theorem dX9_share_65 : decode cX9_share 65 = .ok (.if_icmp .ge 22, 3) := by decide +kernel
theorem dX9_share_68 : decode cX9_share 68 = .ok (.aload_n 0, 1) := by decide +kernel
theorem dX9_share_69 : decode cX9_share 69 = .ok (.iload_n 2, 1) := by decide +kernel
theorem dX9_share_70 : decode cX9_share 70 = .ok (.iload 4, 2) := by decide +kernel
theorem dX9_share_72 : decode cX9_share 72 = .ok (.iconst 1, 1) := by decide +kernel
theorem dX9_share_73 : decode cX9_share 73 = .ok (.iadd, 1) := by decide +kernel
theorem dX9_share_74 : decode cX9_share 74 = .ok (.invokevirtual 341, 3) := by decide +kernel
theorem dX9_share_77 : decode cX9_share 77 = .ok (.iload_n 3, 1) := by decide +kernel
theorem dX9_share_78 : decode cX9_share 78 = .ok (.if_icmp .gt 9, 3) := by decide +kernel
theorem dX9_share_81 : decode cX9_share 81 = .ok (.iinc 4 1, 3) := by decide +kernel
theorem dX9_share_84 : decode cX9_share 84 = .ok (.goto (-24), 3) := by decide +kernel
theorem dX9_share_87 : decode cX9_share 87 = .ok (.aload_n 0, 1) := by decide +kernel
theorem dX9_share_88 : decode cX9_share 88 = .ok (.getfield 26, 3) := by decide +kernel
theorem dX9_share_91 : decode cX9_share 91 = .ok (.getfield 245, 3) := by decide +kernel
theorem dX9_share_94 : decode cX9_share 94 = .ok (.iload_n 1, 1) := by decide +kernel
theorem dX9_share_95 : decode cX9_share 95 = .ok (.iaload, 1) := by decide +kernel
theorem dX9_share_96 : decode cX9_share 96 = .ok (.iload 4, 2) := by decide +kernel
theorem dX9_share_98 : decode cX9_share 98 = .ok (.invokestatic 133, 3) := by decide +kernel
theorem dX9_share_101 : decode cX9_share 101 = .ok (.ireturn, 1) := by decide +kernel
theorem dX9_taken_0 : decode cX9_taken 0 = .ok (.aload_n 0, 1) := by decide +kernel
theorem dX9_taken_1 : decode cX9_taken 1 = .ok (.iload_n 1, 1) := by decide +kernel
theorem dX9_taken_2 : decode cX9_taken 2 = .ok (.iload_n 2, 1) := by decide +kernel
theorem dX9_taken_3 : decode cX9_taken 3 = .ok (.invokevirtual 256, 3) := by decide +kernel
theorem dX9_taken_6 : decode cX9_taken 6 = .ok (.aload_n 0, 1) := by decide +kernel
theorem dX9_taken_7 : decode cX9_taken 7 = .ok (.getfield 19, 3) := by decide +kernel
theorem dX9_taken_10 : decode cX9_taken 10 = .ok (.aload_n 0, 1) := by decide +kernel
theorem dX9_taken_11 : decode cX9_taken 11 = .ok (.getfield 26, 3) := by decide +kernel
theorem dX9_taken_14 : decode cX9_taken 14 = .ok (.getfield 208, 3) := by decide +kernel
theorem dX9_taken_17 : decode cX9_taken 17 = .ok (.iload_n 1, 1) := by decide +kernel
theorem dX9_taken_18 : decode cX9_taken 18 = .ok (.iaload, 1) := by decide +kernel
theorem dX9_taken_19 : decode cX9_taken 19 = .ok (.iload_n 2, 1) := by decide +kernel
theorem dX9_taken_20 : decode cX9_taken 20 = .ok (.invokevirtual 344, 3) := by decide +kernel
theorem dX9_taken_23 : decode cX9_taken 23 = .ok (.ireturn, 1) := by decide +kernel
theorem dX9_cheapest_0 : decode cX9_cheapest 0 = .ok (.aload_n 0, 1) := by decide +kernel
theorem dX9_cheapest_1 : decode cX9_cheapest 1 = .ok (.iload_n 1, 1) := by decide +kernel
theorem dX9_cheapest_2 : decode cX9_cheapest 2 = .ok (.invokevirtual 205, 3) := by decide +kernel
theorem dX9_cheapest_5 : decode cX9_cheapest 5 = .ok (.aload_n 0, 1) := by decide +kernel
theorem dX9_cheapest_6 : decode cX9_cheapest 6 = .ok (.iload_n 2, 1) := by decide +kernel
theorem dX9_cheapest_7 : decode cX9_cheapest 7 = .ok (.iconst 0, 1) := by decide +kernel
theorem dX9_cheapest_8 : decode cX9_cheapest 8 = .ok (.iconst 1, 1) := by decide +kernel
theorem dX9_cheapest_9 : decode cX9_cheapest 9 = .ok (.invokestatic 87, 3) := by decide +kernel
theorem dX9_cheapest_12 : decode cX9_cheapest 12 = .ok (.invokevirtual 91, 3) := by decide +kernel
theorem dX9_cheapest_15 : decode cX9_cheapest 15 = .ok (.iconst (-1), 1) := by decide +kernel
theorem dX9_cheapest_16 : decode cX9_cheapest 16 = .ok (.istore_n 3, 1) := by decide +kernel
theorem dX9_cheapest_17 : decode cX9_cheapest 17 = .ok (.iconst (-1), 1) := by decide +kernel
theorem dX9_cheapest_18 : decode cX9_cheapest 18 = .ok (.istore 4, 2) := by decide +kernel
theorem dX9_cheapest_20 : decode cX9_cheapest 20 = .ok (.iconst 0, 1) := by decide +kernel
theorem dX9_cheapest_21 : decode cX9_cheapest 21 = .ok (.istore 5, 2) := by decide +kernel
theorem dX9_cheapest_23 : decode cX9_cheapest 23 = .ok (.iload 5, 2) := by decide +kernel
theorem dX9_cheapest_25 : decode cX9_cheapest 25 = .ok (.aload_n 0, 1) := by decide +kernel
theorem dX9_cheapest_26 : decode cX9_cheapest 26 = .ok (.getfield 19, 3) := by decide +kernel
theorem dX9_cheapest_29 : decode cX9_cheapest 29 = .ok (.getfield 108, 3) := by decide +kernel
theorem dX9_cheapest_32 : decode cX9_cheapest 32 = .ok (.getfield 153, 3) := by decide +kernel
theorem dX9_cheapest_35 : decode cX9_cheapest 35 = .ok (.if_icmp .ge 75, 3) := by decide +kernel
theorem dX9_cheapest_38 : decode cX9_cheapest 38 = .ok (.aload_n 0, 1) := by decide +kernel
theorem dX9_cheapest_39 : decode cX9_cheapest 39 = .ok (.getfield 19, 3) := by decide +kernel
theorem dX9_cheapest_42 : decode cX9_cheapest 42 = .ok (.aload_n 0, 1) := by decide +kernel
theorem dX9_cheapest_43 : decode cX9_cheapest 43 = .ok (.getfield 26, 3) := by decide +kernel
theorem dX9_cheapest_46 : decode cX9_cheapest 46 = .ok (.getfield 208, 3) := by decide +kernel
theorem dX9_cheapest_49 : decode cX9_cheapest 49 = .ok (.iload_n 1, 1) := by decide +kernel
theorem dX9_cheapest_50 : decode cX9_cheapest 50 = .ok (.iaload, 1) := by decide +kernel
theorem dX9_cheapest_51 : decode cX9_cheapest 51 = .ok (.iload 5, 2) := by decide +kernel
theorem dX9_cheapest_53 : decode cX9_cheapest 53 = .ok (.invokevirtual 347, 3) := by decide +kernel
theorem dX9_cheapest_56 : decode cX9_cheapest 56 = .ok (.ifCond .eq 48, 3) := by decide +kernel
theorem dX9_cheapest_59 : decode cX9_cheapest 59 = .ok (.aload_n 0, 1) := by decide +kernel
theorem dX9_cheapest_60 : decode cX9_cheapest 60 = .ok (.getfield 19, 3) := by decide +kernel
theorem dX9_cheapest_63 : decode cX9_cheapest 63 = .ok (.aload_n 0, 1) := by decide +kernel
theorem dX9_cheapest_64 : decode cX9_cheapest 64 = .ok (.getfield 26, 3) := by decide +kernel
theorem dX9_cheapest_67 : decode cX9_cheapest 67 = .ok (.iload_n 1, 1) := by decide +kernel
theorem dX9_cheapest_68 : decode cX9_cheapest 68 = .ok (.iload 5, 2) := by decide +kernel
theorem dX9_cheapest_70 : decode cX9_cheapest 70 = .ok (.aload_n 0, 1) := by decide +kernel
theorem dX9_cheapest_71 : decode cX9_cheapest 71 = .ok (.getfield 26, 3) := by decide +kernel
theorem dX9_cheapest_74 : decode cX9_cheapest 74 = .ok (.getfield 242, 3) := by decide +kernel
theorem dX9_cheapest_77 : decode cX9_cheapest 77 = .ok (.iload 5, 2) := by decide +kernel
theorem dX9_cheapest_79 : decode cX9_cheapest 79 = .ok (.iaload, 1) := by decide +kernel
theorem dX9_cheapest_80 : decode cX9_cheapest 80 = .ok (.invokevirtual 263, 3) := by decide +kernel
theorem dX9_cheapest_83 : decode cX9_cheapest 83 = .ok (.istore 6, 2) := by decide +kernel
theorem dX9_cheapest_85 : decode cX9_cheapest 85 = .ok (.iload_n 3, 1) := by decide +kernel
theorem dX9_cheapest_86 : decode cX9_cheapest 86 = .ok (.iconst (-1), 1) := by decide +kernel
theorem dX9_cheapest_87 : decode cX9_cheapest 87 = .ok (.if_icmp .eq 10, 3) := by decide +kernel
theorem dX9_cheapest_90 : decode cX9_cheapest 90 = .ok (.iload 6, 2) := by decide +kernel
theorem dX9_cheapest_92 : decode cX9_cheapest 92 = .ok (.iload 4, 2) := by decide +kernel
theorem dX9_cheapest_94 : decode cX9_cheapest 94 = .ok (.if_icmp .ge 10, 3) := by decide +kernel
theorem dX9_cheapest_97 : decode cX9_cheapest 97 = .ok (.iload 5, 2) := by decide +kernel
theorem dX9_cheapest_99 : decode cX9_cheapest 99 = .ok (.istore_n 3, 1) := by decide +kernel
theorem dX9_cheapest_100 : decode cX9_cheapest 100 = .ok (.iload 6, 2) := by decide +kernel
theorem dX9_cheapest_102 : decode cX9_cheapest 102 = .ok (.istore 4, 2) := by decide +kernel
theorem dX9_cheapest_104 : decode cX9_cheapest 104 = .ok (.iinc 5 1, 3) := by decide +kernel
theorem dX9_cheapest_107 : decode cX9_cheapest 107 = .ok (.goto (-84), 3) := by decide +kernel
theorem dX9_cheapest_110 : decode cX9_cheapest 110 = .ok (.iload_n 2, 1) := by decide +kernel
theorem dX9_cheapest_111 : decode cX9_cheapest 111 = .ok (.ifCond .ne 7, 3) := by decide +kernel
theorem dX9_cheapest_114 : decode cX9_cheapest 114 = .ok (.iload_n 3, 1) := by decide +kernel
theorem dX9_cheapest_115 : decode cX9_cheapest 115 = .ok (.goto 5, 3) := by decide +kernel
theorem dX9_cheapest_118 : decode cX9_cheapest 118 = .ok (.iload 4, 2) := by decide +kernel
theorem dX9_cheapest_120 : decode cX9_cheapest 120 = .ok (.ireturn, 1) := by decide +kernel
theorem dX9_striped_0 : decode cX9_striped 0 = .ok (.aload_n 0, 1) := by decide +kernel
theorem dX9_striped_1 : decode cX9_striped 1 = .ok (.iload_n 1, 1) := by decide +kernel
theorem dX9_striped_2 : decode cX9_striped 2 = .ok (.iconst 0, 1) := by decide +kernel
theorem dX9_striped_3 : decode cX9_striped 3 = .ok (.bipush 7, 2) := by decide +kernel
theorem dX9_striped_5 : decode cX9_striped 5 = .ok (.invokestatic 87, 3) := by decide +kernel
theorem dX9_striped_8 : decode cX9_striped 8 = .ok (.invokevirtual 91, 3) := by decide +kernel
theorem dX9_striped_11 : decode cX9_striped 11 = .ok (.iconst 0, 1) := by decide +kernel
theorem dX9_striped_12 : decode cX9_striped 12 = .ok (.istore_n 2, 1) := by decide +kernel
theorem dX9_striped_13 : decode cX9_striped 13 = .ok (.iconst 0, 1) := by decide +kernel
theorem dX9_striped_14 : decode cX9_striped 14 = .ok (.istore_n 3, 1) := by decide +kernel
theorem dX9_striped_15 : decode cX9_striped 15 = .ok (.iload_n 3, 1) := by decide +kernel
theorem dX9_striped_16 : decode cX9_striped 16 = .ok (.aload_n 0, 1) := by decide +kernel
theorem dX9_striped_17 : decode cX9_striped 17 = .ok (.getfield 26, 3) := by decide +kernel
theorem dX9_striped_20 : decode cX9_striped 20 = .ok (.getfield 130, 3) := by decide +kernel
theorem dX9_striped_23 : decode cX9_striped 23 = .ok (.if_icmp .ge 27, 3) := by decide +kernel
theorem dX9_striped_26 : decode cX9_striped 26 = .ok (.iload_n 2, 1) := by decide +kernel
theorem dX9_striped_27 : decode cX9_striped 27 = .ok (.aload_n 0, 1) := by decide +kernel
theorem dX9_striped_28 : decode cX9_striped 28 = .ok (.getfield 26, 3) := by decide +kernel
theorem dX9_striped_31 : decode cX9_striped 31 = .ok (.getfield 208, 3) := by decide +kernel
theorem dX9_striped_34 : decode cX9_striped 34 = .ok (.iload_n 3, 1) := by decide +kernel
theorem dX9_striped_35 : decode cX9_striped 35 = .ok (.iaload, 1) := by decide +kernel
theorem dX9_striped_36 : decode cX9_striped 36 = .ok (.iload_n 1, 1) := by decide +kernel
theorem dX9_striped_37 : decode cX9_striped 37 = .ok (.ishr, 1) := by decide +kernel
theorem dX9_striped_38 : decode cX9_striped 38 = .ok (.iconst 1, 1) := by decide +kernel
theorem dX9_striped_39 : decode cX9_striped 39 = .ok (.iand, 1) := by decide +kernel
theorem dX9_striped_40 : decode cX9_striped 40 = .ok (.iload_n 3, 1) := by decide +kernel
theorem dX9_striped_41 : decode cX9_striped 41 = .ok (.ishl, 1) := by decide +kernel
theorem dX9_striped_42 : decode cX9_striped 42 = .ok (.ior, 1) := by decide +kernel
theorem dX9_striped_43 : decode cX9_striped 43 = .ok (.istore_n 2, 1) := by decide +kernel
theorem dX9_striped_44 : decode cX9_striped 44 = .ok (.iinc 3 1, 3) := by decide +kernel
theorem dX9_striped_47 : decode cX9_striped 47 = .ok (.goto (-32), 3) := by decide +kernel
theorem dX9_striped_50 : decode cX9_striped 50 = .ok (.iload_n 2, 1) := by decide +kernel
theorem dX9_striped_51 : decode cX9_striped 51 = .ok (.ireturn, 1) := by decide +kernel
theorem dX9_oldest_0 : decode cX9_oldest 0 = .ok (.aload_n 0, 1) := by decide +kernel
theorem dX9_oldest_1 : decode cX9_oldest 1 = .ok (.iload_n 1, 1) := by decide +kernel
theorem dX9_oldest_2 : decode cX9_oldest 2 = .ok (.iconst 0, 1) := by decide +kernel
theorem dX9_oldest_3 : decode cX9_oldest 3 = .ok (.iconst 1, 1) := by decide +kernel
theorem dX9_oldest_4 : decode cX9_oldest 4 = .ok (.invokestatic 87, 3) := by decide +kernel
theorem dX9_oldest_7 : decode cX9_oldest 7 = .ok (.invokevirtual 91, 3) := by decide +kernel
theorem dX9_oldest_10 : decode cX9_oldest 10 = .ok (.iconst (-1), 1) := by decide +kernel
theorem dX9_oldest_11 : decode cX9_oldest 11 = .ok (.istore_n 2, 1) := by decide +kernel
theorem dX9_oldest_12 : decode cX9_oldest 12 = .ok (.iconst (-1), 1) := by decide +kernel
theorem dX9_oldest_13 : decode cX9_oldest 13 = .ok (.istore_n 3, 1) := by decide +kernel
theorem dX9_oldest_14 : decode cX9_oldest 14 = .ok (.iconst 0, 1) := by decide +kernel
theorem dX9_oldest_15 : decode cX9_oldest 15 = .ok (.istore 4, 2) := by decide +kernel
theorem dX9_oldest_17 : decode cX9_oldest 17 = .ok (.iload 4, 2) := by decide +kernel
theorem dX9_oldest_19 : decode cX9_oldest 19 = .ok (.aload_n 0, 1) := by decide +kernel
theorem dX9_oldest_20 : decode cX9_oldest 20 = .ok (.getfield 26, 3) := by decide +kernel
theorem dX9_oldest_23 : decode cX9_oldest 23 = .ok (.getfield 130, 3) := by decide +kernel
theorem dX9_oldest_26 : decode cX9_oldest 26 = .ok (.if_icmp .ge 37, 3) := by decide +kernel
theorem dX9_oldest_29 : decode cX9_oldest 29 = .ok (.aload_n 0, 1) := by decide +kernel
theorem dX9_oldest_30 : decode cX9_oldest 30 = .ok (.getfield 26, 3) := by decide +kernel
theorem dX9_oldest_33 : decode cX9_oldest 33 = .ok (.getfield 215, 3) := by decide +kernel
theorem dX9_oldest_36 : decode cX9_oldest 36 = .ok (.iload 4, 2) := by decide +kernel
theorem dX9_oldest_38 : decode cX9_oldest 38 = .ok (.iaload, 1) := by decide +kernel
theorem dX9_oldest_39 : decode cX9_oldest 39 = .ok (.iload_n 3, 1) := by decide +kernel
theorem dX9_oldest_40 : decode cX9_oldest 40 = .ok (.if_icmp .le 17, 3) := by decide +kernel
theorem dX9_oldest_43 : decode cX9_oldest 43 = .ok (.iload 4, 2) := by decide +kernel
theorem dX9_oldest_45 : decode cX9_oldest 45 = .ok (.istore_n 2, 1) := by decide +kernel
theorem dX9_oldest_46 : decode cX9_oldest 46 = .ok (.aload_n 0, 1) := by decide +kernel
theorem dX9_oldest_47 : decode cX9_oldest 47 = .ok (.getfield 26, 3) := by decide +kernel
theorem dX9_oldest_50 : decode cX9_oldest 50 = .ok (.getfield 215, 3) := by decide +kernel
theorem dX9_oldest_53 : decode cX9_oldest 53 = .ok (.iload 4, 2) := by decide +kernel
theorem dX9_oldest_55 : decode cX9_oldest 55 = .ok (.iaload, 1) := by decide +kernel
theorem dX9_oldest_56 : decode cX9_oldest 56 = .ok (.istore_n 3, 1) := by decide +kernel
theorem dX9_oldest_57 : decode cX9_oldest 57 = .ok (.iinc 4 1, 3) := by decide +kernel
theorem dX9_oldest_60 : decode cX9_oldest 60 = .ok (.goto (-43), 3) := by decide +kernel
theorem dX9_oldest_63 : decode cX9_oldest 63 = .ok (.iload_n 1, 1) := by decide +kernel
theorem dX9_oldest_64 : decode cX9_oldest 64 = .ok (.ifCond .ne 7, 3) := by decide +kernel
theorem dX9_oldest_67 : decode cX9_oldest 67 = .ok (.iload_n 2, 1) := by decide +kernel
theorem dX9_oldest_68 : decode cX9_oldest 68 = .ok (.goto 4, 3) := by decide +kernel
theorem dX9_oldest_71 : decode cX9_oldest 71 = .ok (.iload_n 3, 1) := by decide +kernel
theorem dX9_oldest_72 : decode cX9_oldest 72 = .ok (.ireturn, 1) := by decide +kernel
theorem dX9_richest_0 : decode cX9_richest 0 = .ok (.aload_n 0, 1) := by decide +kernel
theorem dX9_richest_1 : decode cX9_richest 1 = .ok (.iload_n 1, 1) := by decide +kernel
theorem dX9_richest_2 : decode cX9_richest 2 = .ok (.iconst 0, 1) := by decide +kernel
theorem dX9_richest_3 : decode cX9_richest 3 = .ok (.iconst 1, 1) := by decide +kernel
theorem dX9_richest_4 : decode cX9_richest 4 = .ok (.invokestatic 87, 3) := by decide +kernel
theorem dX9_richest_7 : decode cX9_richest 7 = .ok (.invokevirtual 91, 3) := by decide +kernel
theorem dX9_richest_10 : decode cX9_richest 10 = .ok (.iconst (-1), 1) := by decide +kernel
theorem dX9_richest_11 : decode cX9_richest 11 = .ok (.istore_n 2, 1) := by decide +kernel
theorem dX9_richest_12 : decode cX9_richest 12 = .ok (.iconst 0, 1) := by decide +kernel
theorem dX9_richest_13 : decode cX9_richest 13 = .ok (.istore_n 3, 1) := by decide +kernel
theorem dX9_richest_14 : decode cX9_richest 14 = .ok (.iconst 0, 1) := by decide +kernel
theorem dX9_richest_15 : decode cX9_richest 15 = .ok (.istore 4, 2) := by decide +kernel
theorem dX9_richest_17 : decode cX9_richest 17 = .ok (.iload 4, 2) := by decide +kernel
theorem dX9_richest_19 : decode cX9_richest 19 = .ok (.aload_n 0, 1) := by decide +kernel
theorem dX9_richest_20 : decode cX9_richest 20 = .ok (.getfield 19, 3) := by decide +kernel
theorem dX9_richest_23 : decode cX9_richest 23 = .ok (.getfield 108, 3) := by decide +kernel
theorem dX9_richest_26 : decode cX9_richest 26 = .ok (.getfield 153, 3) := by decide +kernel
theorem dX9_richest_29 : decode cX9_richest 29 = .ok (.if_icmp .ge 37, 3) := by decide +kernel
theorem dX9_richest_32 : decode cX9_richest 32 = .ok (.aload_n 0, 1) := by decide +kernel
theorem dX9_richest_33 : decode cX9_richest 33 = .ok (.getfield 26, 3) := by decide +kernel
theorem dX9_richest_36 : decode cX9_richest 36 = .ok (.getfield 245, 3) := by decide +kernel
theorem dX9_richest_39 : decode cX9_richest 39 = .ok (.iload 4, 2) := by decide +kernel
theorem dX9_richest_41 : decode cX9_richest 41 = .ok (.iaload, 1) := by decide +kernel
theorem dX9_richest_42 : decode cX9_richest 42 = .ok (.iload_n 3, 1) := by decide +kernel
theorem dX9_richest_43 : decode cX9_richest 43 = .ok (.if_icmp .le 17, 3) := by decide +kernel
theorem dX9_richest_46 : decode cX9_richest 46 = .ok (.iload 4, 2) := by decide +kernel
theorem dX9_richest_48 : decode cX9_richest 48 = .ok (.istore_n 2, 1) := by decide +kernel
theorem dX9_richest_49 : decode cX9_richest 49 = .ok (.aload_n 0, 1) := by decide +kernel
theorem dX9_richest_50 : decode cX9_richest 50 = .ok (.getfield 26, 3) := by decide +kernel
theorem dX9_richest_53 : decode cX9_richest 53 = .ok (.getfield 245, 3) := by decide +kernel
theorem dX9_richest_56 : decode cX9_richest 56 = .ok (.iload 4, 2) := by decide +kernel
theorem dX9_richest_58 : decode cX9_richest 58 = .ok (.iaload, 1) := by decide +kernel
theorem dX9_richest_59 : decode cX9_richest 59 = .ok (.istore_n 3, 1) := by decide +kernel
theorem dX9_richest_60 : decode cX9_richest 60 = .ok (.iinc 4 1, 3) := by decide +kernel
theorem dX9_richest_63 : decode cX9_richest 63 = .ok (.goto (-46), 3) := by decide +kernel
theorem dX9_richest_66 : decode cX9_richest 66 = .ok (.iload_n 1, 1) := by decide +kernel
theorem dX9_richest_67 : decode cX9_richest 67 = .ok (.ifCond .eq 8, 3) := by decide +kernel
theorem dX9_richest_70 : decode cX9_richest 70 = .ok (.iload_n 2, 1) := by decide +kernel
theorem dX9_richest_71 : decode cX9_richest 71 = .ok (.iconst (-1), 1) := by decide +kernel
theorem dX9_richest_72 : decode cX9_richest 72 = .ok (.if_icmp .ne 7, 3) := by decide +kernel
theorem dX9_richest_75 : decode cX9_richest 75 = .ok (.iload_n 2, 1) := by decide +kernel
theorem dX9_richest_76 : decode cX9_richest 76 = .ok (.goto 4, 3) := by decide +kernel
theorem dX9_richest_79 : decode cX9_richest 79 = .ok (.iload_n 3, 1) := by decide +kernel
theorem dX9_richest_80 : decode cX9_richest 80 = .ok (.ireturn, 1) := by decide +kernel
theorem dX9_affords_0 : decode cX9_affords 0 = .ok (.aload_n 0, 1) := by decide +kernel
theorem dX9_affords_1 : decode cX9_affords 1 = .ok (.iload_n 1, 1) := by decide +kernel
theorem dX9_affords_2 : decode cX9_affords 2 = .ok (.iload_n 2, 1) := by decide +kernel
theorem dX9_affords_3 : decode cX9_affords 3 = .ok (.invokevirtual 256, 3) := by decide +kernel
theorem dX9_affords_6 : decode cX9_affords 6 = .ok (.aload_n 0, 1) := by decide +kernel
theorem dX9_affords_7 : decode cX9_affords 7 = .ok (.getfield 30, 3) := by decide +kernel
theorem dX9_affords_10 : decode cX9_affords 10 = .ok (.aload_n 0, 1) := by decide +kernel
theorem dX9_affords_11 : decode cX9_affords 11 = .ok (.getfield 26, 3) := by decide +kernel
theorem dX9_affords_14 : decode cX9_affords 14 = .ok (.invokevirtual 121, 3) := by decide +kernel
theorem dX9_affords_17 : decode cX9_affords 17 = .ok (.iconst 0, 1) := by decide +kernel
theorem dX9_affords_18 : decode cX9_affords 18 = .ok (.istore_n 3, 1) := by decide +kernel
theorem dX9_affords_19 : decode cX9_affords 19 = .ok (.iload_n 3, 1) := by decide +kernel
theorem dX9_affords_20 : decode cX9_affords 20 = .ok (.sipush 200, 3) := by decide +kernel
theorem dX9_affords_23 : decode cX9_affords 23 = .ok (.if_icmp .ge 25, 3) := by decide +kernel
theorem dX9_affords_26 : decode cX9_affords 26 = .ok (.aload_n 0, 1) := by decide +kernel
theorem dX9_affords_27 : decode cX9_affords 27 = .ok (.getfield 19, 3) := by decide +kernel
theorem dX9_affords_30 : decode cX9_affords 30 = .ok (.aload_n 0, 1) := by decide +kernel
theorem dX9_affords_31 : decode cX9_affords 31 = .ok (.getfield 30, 3) := by decide +kernel
theorem dX9_affords_34 : decode cX9_affords 34 = .ok (.iload_n 1, 1) := by decide +kernel
theorem dX9_affords_35 : decode cX9_affords 35 = .ok (.iload_n 2, 1) := by decide +kernel
theorem dX9_affords_36 : decode cX9_affords 36 = .ok (.invokevirtual 351, 3) := by decide +kernel
theorem dX9_affords_39 : decode cX9_affords 39 = .ok (.ifCond .eq 9, 3) := by decide +kernel
theorem dX9_affords_42 : decode cX9_affords 42 = .ok (.iinc 3 1, 3) := by decide +kernel
theorem dX9_affords_45 : decode cX9_affords 45 = .ok (.goto (-26), 3) := by decide +kernel
theorem dX9_affords_48 : decode cX9_affords 48 = .ok (.iload_n 3, 1) := by decide +kernel
theorem dX9_affords_49 : decode cX9_affords 49 = .ok (.ireturn, 1) := by decide +kernel
theorem dX9_years_0 : decode cX9_years 0 = .ok (.aload_n 0, 1) := by decide +kernel
theorem dX9_years_1 : decode cX9_years 1 = .ok (.iload_n 2, 1) := by decide +kernel
theorem dX9_years_2 : decode cX9_years 2 = .ok (.iload_n 3, 1) := by decide +kernel
theorem dX9_years_3 : decode cX9_years 3 = .ok (.iload 4, 2) := by decide +kernel
theorem dX9_years_5 : decode cX9_years 5 = .ok (.invokestatic 355, 3) := by decide +kernel
theorem dX9_years_8 : decode cX9_years 8 = .ok (.ifCond .eq 17, 3) := by decide +kernel
theorem dX9_years_11 : decode cX9_years 11 = .ok (.iload 5, 2) := by decide +kernel
theorem dX9_years_13 : decode cX9_years 13 = .ok (.iconst 0, 1) := by decide +kernel
theorem dX9_years_14 : decode cX9_years 14 = .ok (.iconst 3, 1) := by decide +kernel
theorem dX9_years_15 : decode cX9_years 15 = .ok (.invokestatic 87, 3) := by decide +kernel
theorem dX9_years_18 : decode cX9_years 18 = .ok (.ifCond .eq 7, 3) := by decide +kernel
theorem dX9_years_21 : decode cX9_years 21 = .ok (.iconst 1, 1) := by decide +kernel
theorem dX9_years_22 : decode cX9_years 22 = .ok (.goto 4, 3) := by decide +kernel
theorem dX9_years_25 : decode cX9_years 25 = .ok (.iconst 0, 1) := by decide +kernel
theorem dX9_years_26 : decode cX9_years 26 = .ok (.invokevirtual 91, 3) := by decide +kernel
theorem dX9_years_29 : decode cX9_years 29 = .ok (.aload_n 0, 1) := by decide +kernel
theorem dX9_years_30 : decode cX9_years 30 = .ok (.getfield 30, 3) := by decide +kernel
theorem dX9_years_33 : decode cX9_years 33 = .ok (.aload_n 0, 1) := by decide +kernel
theorem dX9_years_34 : decode cX9_years 34 = .ok (.getfield 26, 3) := by decide +kernel
theorem dX9_years_37 : decode cX9_years 37 = .ok (.invokevirtual 121, 3) := by decide +kernel
theorem dX9_years_40 : decode cX9_years 40 = .ok (.aload_n 0, 1) := by decide +kernel
theorem dX9_years_41 : decode cX9_years 41 = .ok (.getfield 71, 3) := by decide +kernel
theorem dX9_years_44 : decode cX9_years 44 = .ok (.aload_n 0, 1) := by decide +kernel
theorem dX9_years_45 : decode cX9_years 45 = .ok (.getfield 19, 3) := by decide +kernel
theorem dX9_years_48 : decode cX9_years 48 = .ok (.aload_n 0, 1) := by decide +kernel
theorem dX9_years_49 : decode cX9_years 49 = .ok (.getfield 30, 3) := by decide +kernel
theorem dX9_years_52 : decode cX9_years 52 = .ok (.iload_n 1, 1) := by decide +kernel
theorem dX9_years_53 : decode cX9_years 53 = .ok (.iload_n 2, 1) := by decide +kernel
theorem dX9_years_54 : decode cX9_years 54 = .ok (.iload_n 3, 1) := by decide +kernel
theorem dX9_years_55 : decode cX9_years 55 = .ok (.iload 4, 2) := by decide +kernel
theorem dX9_years_57 : decode cX9_years 57 = .ok (.invokevirtual 358, 3) := by decide +kernel
theorem dX9_years_60 : decode cX9_years 60 = .ok (.iload 5, 2) := by decide +kernel
theorem dX9_years_62 : decode cX9_years 62 = .ok (.tableswitch 50 0 2 #[26, 34, 42], 26) := by decide +kernel
theorem dX9_years_88 : decode cX9_years 88 = .ok (.aload_n 0, 1) := by decide +kernel
theorem dX9_years_89 : decode cX9_years 89 = .ok (.getfield 71, 3) := by decide +kernel
theorem dX9_years_92 : decode cX9_years 92 = .ok (.getfield 362, 3) := by decide +kernel
theorem dX9_years_95 : decode cX9_years 95 = .ok (.ireturn, 1) := by decide +kernel
theorem dX9_years_96 : decode cX9_years 96 = .ok (.aload_n 0, 1) := by decide +kernel
theorem dX9_years_97 : decode cX9_years 97 = .ok (.getfield 30, 3) := by decide +kernel
theorem dX9_years_100 : decode cX9_years 100 = .ok (.getfield 189, 3) := by decide +kernel
theorem dX9_years_103 : decode cX9_years 103 = .ok (.ireturn, 1) := by decide +kernel
theorem dX9_years_104 : decode cX9_years 104 = .ok (.aload_n 0, 1) := by decide +kernel
theorem dX9_years_105 : decode cX9_years 105 = .ok (.getfield 30, 3) := by decide +kernel
theorem dX9_years_108 : decode cX9_years 108 = .ok (.invokevirtual 202, 3) := by decide +kernel
theorem dX9_years_111 : decode cX9_years 111 = .ok (.ireturn, 1) := by decide +kernel
theorem dX9_years_112 : decode cX9_years 112 = .ok (.aload_n 0, 1) := by decide +kernel
theorem dX9_years_113 : decode cX9_years 113 = .ok (.getfield 71, 3) := by decide +kernel
theorem dX9_years_116 : decode cX9_years 116 = .ok (.getfield 365, 3) := by decide +kernel
theorem dX9_years_119 : decode cX9_years 119 = .ok (.ireturn, 1) := by decide +kernel
theorem dX9_span_0 : decode cX9_span 0 = .ok (.aload_n 0, 1) := by decide +kernel
theorem dX9_span_1 : decode cX9_span 1 = .ok (.iload_n 2, 1) := by decide +kernel
theorem dX9_span_2 : decode cX9_span 2 = .ok (.iconst 1, 1) := by decide +kernel
theorem dX9_span_3 : decode cX9_span 3 = .ok (.bipush 20, 2) := by decide +kernel
theorem dX9_span_5 : decode cX9_span 5 = .ok (.invokestatic 87, 3) := by decide +kernel
theorem dX9_span_8 : decode cX9_span 8 = .ok (.ifCond .eq 46, 3) := by decide +kernel
theorem dX9_span_11 : decode cX9_span 11 = .ok (.iload_n 3, 1) := by decide +kernel
theorem dX9_span_12 : decode cX9_span 12 = .ok (.iload 4, 2) := by decide +kernel
theorem dX9_span_14 : decode cX9_span 14 = .ok (.iload 5, 2) := by decide +kernel
theorem dX9_span_16 : decode cX9_span 16 = .ok (.invokestatic 355, 3) := by decide +kernel
theorem dX9_span_19 : decode cX9_span 19 = .ok (.ifCond .eq 35, 3) := by decide +kernel
theorem dX9_span_22 : decode cX9_span 22 = .ok (.iload 6, 2) := by decide +kernel
theorem dX9_span_24 : decode cX9_span 24 = .ok (.iconst 0, 1) := by decide +kernel
theorem dX9_span_25 : decode cX9_span 25 = .ok (.iconst 2, 1) := by decide +kernel
theorem dX9_span_26 : decode cX9_span 26 = .ok (.invokestatic 87, 3) := by decide +kernel
theorem dX9_span_29 : decode cX9_span 29 = .ok (.ifCond .eq 25, 3) := by decide +kernel
theorem dX9_span_32 : decode cX9_span 32 = .ok (.iload 7, 2) := by decide +kernel
theorem dX9_span_34 : decode cX9_span 34 = .ok (.iconst 0, 1) := by decide +kernel
theorem dX9_span_35 : decode cX9_span 35 = .ok (.aload_n 0, 1) := by decide +kernel
theorem dX9_span_36 : decode cX9_span 36 = .ok (.getfield 26, 3) := by decide +kernel
theorem dX9_span_39 : decode cX9_span 39 = .ok (.getfield 130, 3) := by decide +kernel
theorem dX9_span_42 : decode cX9_span 42 = .ok (.iconst 1, 1) := by decide +kernel
theorem dX9_span_43 : decode cX9_span 43 = .ok (.isub, 1) := by decide +kernel
theorem dX9_span_44 : decode cX9_span 44 = .ok (.invokestatic 87, 3) := by decide +kernel
theorem dX9_span_47 : decode cX9_span 47 = .ok (.ifCond .eq 7, 3) := by decide +kernel
theorem dX9_span_50 : decode cX9_span 50 = .ok (.iconst 1, 1) := by decide +kernel
theorem dX9_span_51 : decode cX9_span 51 = .ok (.goto 4, 3) := by decide +kernel
theorem dX9_span_54 : decode cX9_span 54 = .ok (.iconst 0, 1) := by decide +kernel
theorem dX9_span_55 : decode cX9_span 55 = .ok (.invokevirtual 91, 3) := by decide +kernel
theorem dX9_span_58 : decode cX9_span 58 = .ok (.iconst (-1), 1) := by decide +kernel
theorem dX9_span_59 : decode cX9_span 59 = .ok (.istore 8, 2) := by decide +kernel
theorem dX9_span_61 : decode cX9_span 61 = .ok (.iconst (-1), 1) := by decide +kernel
theorem dX9_span_62 : decode cX9_span 62 = .ok (.istore 9, 2) := by decide +kernel
theorem dX9_span_64 : decode cX9_span 64 = .ok (.iconst 0, 1) := by decide +kernel
theorem dX9_span_65 : decode cX9_span 65 = .ok (.istore 10, 2) := by decide +kernel
theorem dX9_span_67 : decode cX9_span 67 = .ok (.iconst 0, 1) := by decide +kernel
theorem dX9_span_68 : decode cX9_span 68 = .ok (.istore 11, 2) := by decide +kernel
theorem dX9_span_70 : decode cX9_span 70 = .ok (.iload 11, 2) := by decide +kernel
theorem dX9_span_72 : decode cX9_span 72 = .ok (.iload_n 2, 1) := by decide +kernel
theorem dX9_span_73 : decode cX9_span 73 = .ok (.if_icmp .ge 121, 3) := by decide +kernel
theorem dX9_span_76 : decode cX9_span 76 = .ok (.aload_n 0, 1) := by decide +kernel
theorem dX9_span_77 : decode cX9_span 77 = .ok (.getfield 30, 3) := by decide +kernel
theorem dX9_span_80 : decode cX9_span 80 = .ok (.aload_n 0, 1) := by decide +kernel
theorem dX9_span_81 : decode cX9_span 81 = .ok (.getfield 26, 3) := by decide +kernel
theorem dX9_span_84 : decode cX9_span 84 = .ok (.invokevirtual 121, 3) := by decide +kernel
theorem dX9_span_87 : decode cX9_span 87 = .ok (.aload_n 0, 1) := by decide +kernel
theorem dX9_span_88 : decode cX9_span 88 = .ok (.getfield 71, 3) := by decide +kernel
theorem dX9_span_91 : decode cX9_span 91 = .ok (.aload_n 0, 1) := by decide +kernel
theorem dX9_span_92 : decode cX9_span 92 = .ok (.getfield 19, 3) := by decide +kernel
theorem dX9_span_95 : decode cX9_span 95 = .ok (.aload_n 0, 1) := by decide +kernel
theorem dX9_span_96 : decode cX9_span 96 = .ok (.getfield 30, 3) := by decide +kernel
theorem dX9_span_99 : decode cX9_span 99 = .ok (.iload_n 1, 1) := by decide +kernel
theorem dX9_span_100 : decode cX9_span 100 = .ok (.iload 11, 2) := by decide +kernel
theorem dX9_span_102 : decode cX9_span 102 = .ok (.iadd, 1) := by decide +kernel
theorem dX9_span_103 : decode cX9_span 103 = .ok (.iload_n 3, 1) := by decide +kernel
theorem dX9_span_104 : decode cX9_span 104 = .ok (.iload 4, 2) := by decide +kernel
theorem dX9_span_106 : decode cX9_span 106 = .ok (.iload 5, 2) := by decide +kernel
theorem dX9_span_108 : decode cX9_span 108 = .ok (.invokevirtual 358, 3) := by decide +kernel
theorem dX9_span_111 : decode cX9_span 111 = .ok (.iload 8, 2) := by decide +kernel
theorem dX9_span_113 : decode cX9_span 113 = .ok (.iconst (-1), 1) := by decide +kernel
theorem dX9_span_114 : decode cX9_span 114 = .ok (.if_icmp .ne 13, 3) := by decide +kernel
theorem dX9_span_117 : decode cX9_span 117 = .ok (.aload_n 0, 1) := by decide +kernel
theorem dX9_span_118 : decode cX9_span 118 = .ok (.getfield 71, 3) := by decide +kernel
theorem dX9_span_121 : decode cX9_span 121 = .ok (.getfield 362, 3) := by decide +kernel
theorem dX9_span_124 : decode cX9_span 124 = .ok (.goto 15, 3) := by decide +kernel
theorem dX9_span_127 : decode cX9_span 127 = .ok (.iload 8, 2) := by decide +kernel
theorem dX9_span_129 : decode cX9_span 129 = .ok (.aload_n 0, 1) := by decide +kernel
theorem dX9_span_130 : decode cX9_span 130 = .ok (.getfield 71, 3) := by decide +kernel
theorem dX9_span_133 : decode cX9_span 133 = .ok (.getfield 362, 3) := by decide +kernel
theorem dX9_span_136 : decode cX9_span 136 = .ok (.invokestatic 133, 3) := by decide +kernel
theorem dX9_span_139 : decode cX9_span 139 = .ok (.istore 8, 2) := by decide +kernel
theorem dX9_span_141 : decode cX9_span 141 = .ok (.iload 9, 2) := by decide +kernel
theorem dX9_span_143 : decode cX9_span 143 = .ok (.aload_n 0, 1) := by decide +kernel
theorem dX9_span_144 : decode cX9_span 144 = .ok (.getfield 71, 3) := by decide +kernel
theorem dX9_span_147 : decode cX9_span 147 = .ok (.getfield 362, 3) := by decide +kernel
theorem dX9_span_150 : decode cX9_span 150 = .ok (.invokestatic 303, 3) := by decide +kernel
theorem dX9_span_153 : decode cX9_span 153 = .ok (.istore 9, 2) := by decide +kernel
theorem dX9_span_155 : decode cX9_span 155 = .ok (.iload 10, 2) := by decide +kernel
theorem dX9_span_157 : decode cX9_span 157 = .ok (.aload_n 0, 1) := by decide +kernel
theorem dX9_span_158 : decode cX9_span 158 = .ok (.getfield 30, 3) := by decide +kernel
theorem dX9_span_161 : decode cX9_span 161 = .ok (.getfield 208, 3) := by decide +kernel
theorem dX9_span_164 : decode cX9_span 164 = .ok (.iload 7, 2) := by decide +kernel
theorem dX9_span_166 : decode cX9_span 166 = .ok (.iaload, 1) := by decide +kernel
theorem dX9_span_167 : decode cX9_span 167 = .ok (.aload_n 0, 1) := by decide +kernel
theorem dX9_span_168 : decode cX9_span 168 = .ok (.getfield 30, 3) := by decide +kernel
theorem dX9_span_171 : decode cX9_span 171 = .ok (.getfield 212, 3) := by decide +kernel
theorem dX9_span_174 : decode cX9_span 174 = .ok (.iload 7, 2) := by decide +kernel
theorem dX9_span_176 : decode cX9_span 176 = .ok (.iaload, 1) := by decide +kernel
theorem dX9_span_177 : decode cX9_span 177 = .ok (.if_icmp .ne 7, 3) := by decide +kernel
theorem dX9_span_180 : decode cX9_span 180 = .ok (.iconst 1, 1) := by decide +kernel
theorem dX9_span_181 : decode cX9_span 181 = .ok (.goto 4, 3) := by decide +kernel
theorem dX9_span_184 : decode cX9_span 184 = .ok (.iconst 0, 1) := by decide +kernel
theorem dX9_span_185 : decode cX9_span 185 = .ok (.iadd, 1) := by decide +kernel
theorem dX9_span_186 : decode cX9_span 186 = .ok (.istore 10, 2) := by decide +kernel
theorem dX9_span_188 : decode cX9_span 188 = .ok (.iinc 11 1, 3) := by decide +kernel
theorem dX9_span_191 : decode cX9_span 191 = .ok (.goto (-121), 3) := by decide +kernel
theorem dX9_span_194 : decode cX9_span 194 = .ok (.iload 6, 2) := by decide +kernel
theorem dX9_span_196 : decode cX9_span 196 = .ok (.ifCond .ne 6, 3) := by decide +kernel
theorem dX9_span_199 : decode cX9_span 199 = .ok (.iload 8, 2) := by decide +kernel
theorem dX9_span_201 : decode cX9_span 201 = .ok (.ireturn, 1) := by decide +kernel
theorem dX9_span_202 : decode cX9_span 202 = .ok (.iload 6, 2) := by decide +kernel
theorem dX9_span_204 : decode cX9_span 204 = .ok (.iconst 1, 1) := by decide +kernel
theorem dX9_span_205 : decode cX9_span 205 = .ok (.if_icmp .ne 8, 3) := by decide +kernel
theorem dX9_span_208 : decode cX9_span 208 = .ok (.iload 9, 2) := by decide +kernel
theorem dX9_span_210 : decode cX9_span 210 = .ok (.goto 5, 3) := by decide +kernel
theorem dX9_span_213 : decode cX9_span 213 = .ok (.iload 10, 2) := by decide +kernel
theorem dX9_span_215 : decode cX9_span 215 = .ok (.ireturn, 1) := by decide +kernel
theorem dX9_image_0 : decode cX9_image 0 = .ok (.aload_n 0, 1) := by decide +kernel
theorem dX9_image_1 : decode cX9_image 1 = .ok (.getfield 57, 3) := by decide +kernel
theorem dX9_image_4 : decode cX9_image 4 = .ok (.aload_n 0, 1) := by decide +kernel
theorem dX9_image_5 : decode cX9_image 5 = .ok (.getfield 26, 3) := by decide +kernel
theorem dX9_image_8 : decode cX9_image 8 = .ok (.invokevirtual 368, 3) := by decide +kernel
theorem dX9_image_11 : decode cX9_image 11 = .ok (.ifCond .eq 13, 3) := by decide +kernel
theorem dX9_image_14 : decode cX9_image 14 = .ok (.aload_n 0, 1) := by decide +kernel
theorem dX9_image_15 : decode cX9_image 15 = .ok (.getfield 57, 3) := by decide +kernel
theorem dX9_image_18 : decode cX9_image 18 = .ok (.getfield 371, 3) := by decide +kernel
theorem dX9_image_21 : decode cX9_image 21 = .ok (.goto 4, 3) := by decide +kernel
theorem dX9_image_24 : decode cX9_image 24 = .ok (.iconst (-1), 1) := by decide +kernel
theorem dX9_image_25 : decode cX9_image 25 = .ok (.ireturn, 1) := by decide +kernel
theorem dX9_restore_0 : decode cX9_restore 0 = .ok (.aload_n 0, 1) := by decide +kernel
theorem dX9_restore_1 : decode cX9_restore 1 = .ok (.getfield 57, 3) := by decide +kernel
theorem dX9_restore_4 : decode cX9_restore 4 = .ok (.aload_n 0, 1) := by decide +kernel
theorem dX9_restore_5 : decode cX9_restore 5 = .ok (.getfield 26, 3) := by decide +kernel
theorem dX9_restore_8 : decode cX9_restore 8 = .ok (.invokevirtual 374, 3) := by decide +kernel
theorem dX9_restore_11 : decode cX9_restore 11 = .ok (.ifCond .ne 5, 3) := by decide +kernel
theorem dX9_restore_14 : decode cX9_restore 14 = .ok (.iconst (-1), 1) := by decide +kernel
theorem dX9_restore_15 : decode cX9_restore 15 = .ok (.ireturn, 1) := by decide +kernel
theorem dX9_restore_16 : decode cX9_restore 16 = .ok (.aload_n 0, 1) := by decide +kernel
theorem dX9_restore_17 : decode cX9_restore 17 = .ok (.iconst 0, 1) := by decide +kernel
theorem dX9_restore_18 : decode cX9_restore 18 = .ok (.putfield 127, 3) := by decide +kernel
theorem dX9_restore_21 : decode cX9_restore 21 = .ok (.aload_n 0, 1) := by decide +kernel
theorem dX9_restore_22 : decode cX9_restore 22 = .ok (.getfield 57, 3) := by decide +kernel
theorem dX9_restore_25 : decode cX9_restore 25 = .ok (.getfield 371, 3) := by decide +kernel
theorem dX9_restore_28 : decode cX9_restore 28 = .ok (.ireturn, 1) := by decide +kernel
theorem dX9_status_0 : decode cX9_status 0 = .ok (.iload_n 1, 1) := by decide +kernel
theorem dX9_status_1 : decode cX9_status 1 = .ok (.lookupswitch 37 #[(0, 27), (1, 32)], 27) := by decide +kernel
theorem dX9_status_28 : decode cX9_status 28 = .ok (.aload_n 0, 1) := by decide +kernel
theorem dX9_status_29 : decode cX9_status 29 = .ok (.getfield 377, 3) := by decide +kernel
theorem dX9_status_32 : decode cX9_status 32 = .ok (.ireturn, 1) := by decide +kernel
theorem dX9_status_33 : decode cX9_status 33 = .ok (.aload_n 0, 1) := by decide +kernel
theorem dX9_status_34 : decode cX9_status 34 = .ok (.getfield 380, 3) := by decide +kernel
theorem dX9_status_37 : decode cX9_status 37 = .ok (.ireturn, 1) := by decide +kernel
theorem dX9_status_38 : decode cX9_status 38 = .ok (.iconst (-1), 1) := by decide +kernel
theorem dX9_status_39 : decode cX9_status 39 = .ok (.ireturn, 1) := by decide +kernel
theorem dX9_count_0 : decode cX9_count 0 = .ok (.iload_n 1, 1) := by decide +kernel
theorem dX9_count_1 : decode cX9_count 1 = .ok (.tableswitch 51 0 2 #[27, 35, 43], 27) := by decide +kernel
theorem dX9_count_28 : decode cX9_count 28 = .ok (.aload_n 0, 1) := by decide +kernel
theorem dX9_count_29 : decode cX9_count 29 = .ok (.getfield 57, 3) := by decide +kernel
theorem dX9_count_32 : decode cX9_count 32 = .ok (.getfield 371, 3) := by decide +kernel
theorem dX9_count_35 : decode cX9_count 35 = .ok (.ireturn, 1) := by decide +kernel
theorem dX9_count_36 : decode cX9_count 36 = .ok (.aload_n 0, 1) := by decide +kernel
theorem dX9_count_37 : decode cX9_count 37 = .ok (.getfield 10, 3) := by decide +kernel
theorem dX9_count_40 : decode cX9_count 40 = .ok (.getfield 83, 3) := by decide +kernel
theorem dX9_count_43 : decode cX9_count 43 = .ok (.ireturn, 1) := by decide +kernel
theorem dX9_count_44 : decode cX9_count 44 = .ok (.aload_n 0, 1) := by decide +kernel
theorem dX9_count_45 : decode cX9_count 45 = .ok (.getfield 57, 3) := by decide +kernel
theorem dX9_count_48 : decode cX9_count 48 = .ok (.getfield 150, 3) := by decide +kernel
theorem dX9_count_51 : decode cX9_count 51 = .ok (.ireturn, 1) := by decide +kernel
theorem dX9_count_52 : decode cX9_count 52 = .ok (.iconst (-1), 1) := by decide +kernel
theorem dX9_count_53 : decode cX9_count 53 = .ok (.ireturn, 1) := by decide +kernel
theorem dX9_isWithin_0 : decode cX9_isWithin 0 = .ok (.iload_n 0, 1) := by decide +kernel
theorem dX9_isWithin_1 : decode cX9_isWithin 1 = .ok (.iload_n 1, 1) := by decide +kernel
theorem dX9_isWithin_2 : decode cX9_isWithin 2 = .ok (.if_icmp .lt 12, 3) := by decide +kernel
theorem dX9_isWithin_5 : decode cX9_isWithin 5 = .ok (.iload_n 0, 1) := by decide +kernel
theorem dX9_isWithin_6 : decode cX9_isWithin 6 = .ok (.iload_n 2, 1) := by decide +kernel
theorem dX9_isWithin_7 : decode cX9_isWithin 7 = .ok (.if_icmp .gt 7, 3) := by decide +kernel
theorem dX9_isWithin_10 : decode cX9_isWithin 10 = .ok (.iconst 1, 1) := by decide +kernel
theorem dX9_isWithin_11 : decode cX9_isWithin 11 = .ok (.goto 4, 3) := by decide +kernel
theorem dX9_isWithin_14 : decode cX9_isWithin 14 = .ok (.iconst 0, 1) := by decide +kernel
theorem dX9_isWithin_15 : decode cX9_isWithin 15 = .ok (.ireturn, 1) := by decide +kernel
theorem dX9_areBeasts_0 : decode cX9_areBeasts 0 = .ok (.iload_n 1, 1) := by decide +kernel
theorem dX9_areBeasts_1 : decode cX9_areBeasts 1 = .ok (.iconst 0, 1) := by decide +kernel
theorem dX9_areBeasts_2 : decode cX9_areBeasts 2 = .ok (.iconst 1, 1) := by decide +kernel
theorem dX9_areBeasts_3 : decode cX9_areBeasts 3 = .ok (.aload_n 0, 1) := by decide +kernel
theorem dX9_areBeasts_4 : decode cX9_areBeasts 4 = .ok (.getfield 26, 3) := by decide +kernel
theorem dX9_areBeasts_7 : decode cX9_areBeasts 7 = .ok (.getfield 130, 3) := by decide +kernel
theorem dX9_areBeasts_10 : decode cX9_areBeasts 10 = .ok (.ishl, 1) := by decide +kernel
theorem dX9_areBeasts_11 : decode cX9_areBeasts 11 = .ok (.iconst 1, 1) := by decide +kernel
theorem dX9_areBeasts_12 : decode cX9_areBeasts 12 = .ok (.isub, 1) := by decide +kernel
theorem dX9_areBeasts_13 : decode cX9_areBeasts 13 = .ok (.invokestatic 87, 3) := by decide +kernel
theorem dX9_areBeasts_16 : decode cX9_areBeasts 16 = .ok (.ireturn, 1) := by decide +kernel
theorem dX9_areDays_0 : decode cX9_areDays 0 = .ok (.iload_n 0, 1) := by decide +kernel
theorem dX9_areDays_1 : decode cX9_areDays 1 = .ok (.iconst 1, 1) := by decide +kernel
theorem dX9_areDays_2 : decode cX9_areDays 2 = .ok (.bipush 96, 2) := by decide +kernel
theorem dX9_areDays_4 : decode cX9_areDays 4 = .ok (.invokestatic 87, 3) := by decide +kernel
theorem dX9_areDays_7 : decode cX9_areDays 7 = .ok (.ifCond .eq 27, 3) := by decide +kernel
theorem dX9_areDays_10 : decode cX9_areDays 10 = .ok (.iload_n 1, 1) := by decide +kernel
theorem dX9_areDays_11 : decode cX9_areDays 11 = .ok (.iconst 0, 1) := by decide +kernel
theorem dX9_areDays_12 : decode cX9_areDays 12 = .ok (.bipush 16, 2) := by decide +kernel
theorem dX9_areDays_14 : decode cX9_areDays 14 = .ok (.invokestatic 87, 3) := by decide +kernel
theorem dX9_areDays_17 : decode cX9_areDays 17 = .ok (.ifCond .eq 17, 3) := by decide +kernel
theorem dX9_areDays_20 : decode cX9_areDays 20 = .ok (.iload_n 2, 1) := by decide +kernel
theorem dX9_areDays_21 : decode cX9_areDays 21 = .ok (.iconst 0, 1) := by decide +kernel
theorem dX9_areDays_22 : decode cX9_areDays 22 = .ok (.bipush 16, 2) := by decide +kernel
theorem dX9_areDays_24 : decode cX9_areDays 24 = .ok (.invokestatic 87, 3) := by decide +kernel
theorem dX9_areDays_27 : decode cX9_areDays 27 = .ok (.ifCond .eq 7, 3) := by decide +kernel
theorem dX9_areDays_30 : decode cX9_areDays 30 = .ok (.iconst 1, 1) := by decide +kernel
theorem dX9_areDays_31 : decode cX9_areDays 31 = .ok (.goto 4, 3) := by decide +kernel
theorem dX9_areDays_34 : decode cX9_areDays 34 = .ok (.iconst 0, 1) := by decide +kernel
theorem dX9_areDays_35 : decode cX9_areDays 35 = .ok (.ireturn, 1) := by decide +kernel
theorem dX9_needArgument_0 : decode cX9_needArgument 0 = .ok (.iload_n 1, 1) := by decide +kernel
theorem dX9_needArgument_1 : decode cX9_needArgument 1 = .ok (.ifCond .ne 24, 3) := by decide +kernel
theorem dX9_needArgument_4 : decode cX9_needArgument 4 = .ok (.aload_n 0, 1) := by decide +kernel
theorem dX9_needArgument_5 : decode cX9_needArgument 5 = .ok (.dup, 1) := by decide +kernel
theorem dX9_needArgument_6 : decode cX9_needArgument 6 = .ok (.getfield 380, 3) := by decide +kernel
theorem dX9_needArgument_9 : decode cX9_needArgument 9 = .ok (.iconst 1, 1) := by decide +kernel
theorem dX9_needArgument_10 : decode cX9_needArgument 10 = .ok (.iadd, 1) := by decide +kernel
theorem dX9_needArgument_11 : decode cX9_needArgument 11 = .ok (.putfield 380, 3) := by decide +kernel
theorem dX9_needArgument_14 : decode cX9_needArgument 14 = .ok (.new 383, 3) := by decide +kernel
theorem dX9_needArgument_17 : decode cX9_needArgument 17 = .ok (.dup, 1) := by decide +kernel
theorem dX9_needArgument_18 : decode cX9_needArgument 18 = .ok (.ldc_w 385, 3) := by decide +kernel
theorem dX9_needArgument_21 : decode cX9_needArgument 21 = .ok (.invokespecial 387, 3) := by decide +kernel
theorem dX9_needArgument_24 : decode cX9_needArgument 24 = .ok (.athrow, 1) := by decide +kernel
theorem dX9_needArgument_25 : decode cX9_needArgument 25 = .ok (.return_, 1) := by decide +kernel
theorem dX9_needBeast_0 : decode cX9_needBeast 0 = .ok (.aload_n 0, 1) := by decide +kernel
theorem dX9_needBeast_1 : decode cX9_needBeast 1 = .ok (.iload_n 1, 1) := by decide +kernel
theorem dX9_needBeast_2 : decode cX9_needBeast 2 = .ok (.iconst 0, 1) := by decide +kernel
theorem dX9_needBeast_3 : decode cX9_needBeast 3 = .ok (.aload_n 0, 1) := by decide +kernel
theorem dX9_needBeast_4 : decode cX9_needBeast 4 = .ok (.getfield 26, 3) := by decide +kernel
theorem dX9_needBeast_7 : decode cX9_needBeast 7 = .ok (.getfield 130, 3) := by decide +kernel
theorem dX9_needBeast_10 : decode cX9_needBeast 10 = .ok (.iconst 1, 1) := by decide +kernel
theorem dX9_needBeast_11 : decode cX9_needBeast 11 = .ok (.isub, 1) := by decide +kernel
theorem dX9_needBeast_12 : decode cX9_needBeast 12 = .ok (.invokestatic 87, 3) := by decide +kernel
theorem dX9_needBeast_15 : decode cX9_needBeast 15 = .ok (.invokevirtual 390, 3) := by decide +kernel
theorem dX9_needBeast_18 : decode cX9_needBeast 18 = .ok (.return_, 1) := by decide +kernel
theorem dX9_needGate_0 : decode cX9_needGate 0 = .ok (.aload_n 0, 1) := by decide +kernel
theorem dX9_needGate_1 : decode cX9_needGate 1 = .ok (.iload_n 1, 1) := by decide +kernel
theorem dX9_needGate_2 : decode cX9_needGate 2 = .ok (.iconst 0, 1) := by decide +kernel
theorem dX9_needGate_3 : decode cX9_needGate 3 = .ok (.aload_n 0, 1) := by decide +kernel
theorem dX9_needGate_4 : decode cX9_needGate 4 = .ok (.getfield 19, 3) := by decide +kernel
theorem dX9_needGate_7 : decode cX9_needGate 7 = .ok (.getfield 108, 3) := by decide +kernel
theorem dX9_needGate_10 : decode cX9_needGate 10 = .ok (.getfield 153, 3) := by decide +kernel
theorem dX9_needGate_13 : decode cX9_needGate 13 = .ok (.iconst 1, 1) := by decide +kernel
theorem dX9_needGate_14 : decode cX9_needGate 14 = .ok (.isub, 1) := by decide +kernel
theorem dX9_needGate_15 : decode cX9_needGate 15 = .ok (.invokestatic 87, 3) := by decide +kernel
theorem dX9_needGate_18 : decode cX9_needGate 18 = .ok (.invokevirtual 390, 3) := by decide +kernel
theorem dX9_needGate_21 : decode cX9_needGate 21 = .ok (.return_, 1) := by decide +kernel
theorem dX9_needBeastAndGate_0 : decode cX9_needBeastAndGate 0 = .ok (.aload_n 0, 1) := by decide +kernel
theorem dX9_needBeastAndGate_1 : decode cX9_needBeastAndGate 1 = .ok (.iload_n 1, 1) := by decide +kernel
theorem dX9_needBeastAndGate_2 : decode cX9_needBeastAndGate 2 = .ok (.invokevirtual 205, 3) := by decide +kernel
theorem dX9_needBeastAndGate_5 : decode cX9_needBeastAndGate 5 = .ok (.aload_n 0, 1) := by decide +kernel
theorem dX9_needBeastAndGate_6 : decode cX9_needBeastAndGate 6 = .ok (.iload_n 2, 1) := by decide +kernel
theorem dX9_needBeastAndGate_7 : decode cX9_needBeastAndGate 7 = .ok (.invokevirtual 230, 3) := by decide +kernel
theorem dX9_needBeastAndGate_10 : decode cX9_needBeastAndGate 10 = .ok (.return_, 1) := by decide +kernel
theorem dX9_needElement_0 : decode cX9_needElement 0 = .ok (.iload_n 1, 1) := by decide +kernel
theorem dX9_needElement_1 : decode cX9_needElement 1 = .ok (.ifCond .ne 24, 3) := by decide +kernel
theorem dX9_needElement_4 : decode cX9_needElement 4 = .ok (.aload_n 0, 1) := by decide +kernel
theorem dX9_needElement_5 : decode cX9_needElement 5 = .ok (.dup, 1) := by decide +kernel
theorem dX9_needElement_6 : decode cX9_needElement 6 = .ok (.getfield 377, 3) := by decide +kernel
theorem dX9_needElement_9 : decode cX9_needElement 9 = .ok (.iconst 1, 1) := by decide +kernel
theorem dX9_needElement_10 : decode cX9_needElement 10 = .ok (.iadd, 1) := by decide +kernel
theorem dX9_needElement_11 : decode cX9_needElement 11 = .ok (.putfield 377, 3) := by decide +kernel
theorem dX9_needElement_14 : decode cX9_needElement 14 = .ok (.new 393, 3) := by decide +kernel
theorem dX9_needElement_17 : decode cX9_needElement 17 = .ok (.dup, 1) := by decide +kernel
theorem dX9_needElement_18 : decode cX9_needElement 18 = .ok (.ldc_w 395, 3) := by decide +kernel
theorem dX9_needElement_21 : decode cX9_needElement 21 = .ok (.invokespecial 397, 3) := by decide +kernel
theorem dX9_needElement_24 : decode cX9_needElement 24 = .ok (.athrow, 1) := by decide +kernel
theorem dX9_needElement_25 : decode cX9_needElement 25 = .ok (.return_, 1) := by decide +kernel
theorem dX9_beastsLetThroughAny_0 : decode cX9_beastsLetThroughAny 0 = .ok (.iconst 0, 1) := by decide +kernel
theorem dX9_beastsLetThroughAny_1 : decode cX9_beastsLetThroughAny 1 = .ok (.istore_n 2, 1) := by decide +kernel
theorem dX9_beastsLetThroughAny_2 : decode cX9_beastsLetThroughAny 2 = .ok (.iconst 0, 1) := by decide +kernel
theorem dX9_beastsLetThroughAny_3 : decode cX9_beastsLetThroughAny 3 = .ok (.istore_n 3, 1) := by decide +kernel
theorem dX9_beastsLetThroughAny_4 : decode cX9_beastsLetThroughAny 4 = .ok (.iload_n 3, 1) := by decide +kernel
theorem dX9_beastsLetThroughAny_5 : decode cX9_beastsLetThroughAny 5 = .ok (.aload_n 0, 1) := by decide +kernel
theorem dX9_beastsLetThroughAny_6 : decode cX9_beastsLetThroughAny 6 = .ok (.getfield 19, 3) := by decide +kernel
theorem dX9_beastsLetThroughAny_9 : decode cX9_beastsLetThroughAny 9 = .ok (.getfield 108, 3) := by decide +kernel
theorem dX9_beastsLetThroughAny_12 : decode cX9_beastsLetThroughAny 12 = .ok (.getfield 153, 3) := by decide +kernel
theorem dX9_beastsLetThroughAny_15 : decode cX9_beastsLetThroughAny 15 = .ok (.if_icmp .ge 33, 3) := by decide +kernel
theorem dX9_beastsLetThroughAny_18 : decode cX9_beastsLetThroughAny 18 = .ok (.iload_n 1, 1) := by decide +kernel
theorem dX9_beastsLetThroughAny_19 : decode cX9_beastsLetThroughAny 19 = .ok (.iload_n 3, 1) := by decide +kernel
theorem dX9_beastsLetThroughAny_20 : decode cX9_beastsLetThroughAny 20 = .ok (.ishr, 1) := by decide +kernel
theorem dX9_beastsLetThroughAny_21 : decode cX9_beastsLetThroughAny 21 = .ok (.iconst 1, 1) := by decide +kernel
theorem dX9_beastsLetThroughAny_22 : decode cX9_beastsLetThroughAny 22 = .ok (.iand, 1) := by decide +kernel
theorem dX9_beastsLetThroughAny_23 : decode cX9_beastsLetThroughAny 23 = .ok (.iconst 1, 1) := by decide +kernel
theorem dX9_beastsLetThroughAny_24 : decode cX9_beastsLetThroughAny 24 = .ok (.if_icmp .ne 18, 3) := by decide +kernel
theorem dX9_beastsLetThroughAny_27 : decode cX9_beastsLetThroughAny 27 = .ok (.iload_n 2, 1) := by decide +kernel
theorem dX9_beastsLetThroughAny_28 : decode cX9_beastsLetThroughAny 28 = .ok (.aload_n 0, 1) := by decide +kernel
theorem dX9_beastsLetThroughAny_29 : decode cX9_beastsLetThroughAny 29 = .ok (.getfield 19, 3) := by decide +kernel
theorem dX9_beastsLetThroughAny_32 : decode cX9_beastsLetThroughAny 32 = .ok (.aload_n 0, 1) := by decide +kernel
theorem dX9_beastsLetThroughAny_33 : decode cX9_beastsLetThroughAny 33 = .ok (.getfield 26, 3) := by decide +kernel
theorem dX9_beastsLetThroughAny_36 : decode cX9_beastsLetThroughAny 36 = .ok (.iload_n 3, 1) := by decide +kernel
theorem dX9_beastsLetThroughAny_37 : decode cX9_beastsLetThroughAny 37 = .ok (.invokevirtual 248, 3) := by decide +kernel
theorem dX9_beastsLetThroughAny_40 : decode cX9_beastsLetThroughAny 40 = .ok (.ior, 1) := by decide +kernel
theorem dX9_beastsLetThroughAny_41 : decode cX9_beastsLetThroughAny 41 = .ok (.istore_n 2, 1) := by decide +kernel
theorem dX9_beastsLetThroughAny_42 : decode cX9_beastsLetThroughAny 42 = .ok (.iinc 3 1, 3) := by decide +kernel
theorem dX9_beastsLetThroughAny_45 : decode cX9_beastsLetThroughAny 45 = .ok (.goto (-41), 3) := by decide +kernel
theorem dX9_beastsLetThroughAny_48 : decode cX9_beastsLetThroughAny 48 = .ok (.iload_n 2, 1) := by decide +kernel
theorem dX9_beastsLetThroughAny_49 : decode cX9_beastsLetThroughAny 49 = .ok (.ireturn, 1) := by decide +kernel
theorem dX9_givenBelow_0 : decode cX9_givenBelow 0 = .ok (.iconst 0, 1) := by decide +kernel
theorem dX9_givenBelow_1 : decode cX9_givenBelow 1 = .ok (.istore_n 3, 1) := by decide +kernel
theorem dX9_givenBelow_2 : decode cX9_givenBelow 2 = .ok (.iconst 0, 1) := by decide +kernel
theorem dX9_givenBelow_3 : decode cX9_givenBelow 3 = .ok (.istore 4, 2) := by decide +kernel
theorem dX9_givenBelow_5 : decode cX9_givenBelow 5 = .ok (.iload 4, 2) := by decide +kernel
theorem dX9_givenBelow_7 : decode cX9_givenBelow 7 = .ok (.aload_n 0, 1) := by decide +kernel
theorem dX9_givenBelow_8 : decode cX9_givenBelow 8 = .ok (.getfield 19, 3) := by decide +kernel
theorem dX9_givenBelow_11 : decode cX9_givenBelow 11 = .ok (.getfield 108, 3) := by decide +kernel
theorem dX9_givenBelow_14 : decode cX9_givenBelow 14 = .ok (.getfield 153, 3) := by decide +kernel
theorem dX9_givenBelow_17 : decode cX9_givenBelow 17 = .ok (.if_icmp .ge 36, 3) := by decide +kernel
theorem dX9_givenBelow_20 : decode cX9_givenBelow 20 = .ok (.iload_n 1, 1) := by decide +kernel
theorem dX9_givenBelow_21 : decode cX9_givenBelow 21 = .ok (.iload 4, 2) := by decide +kernel
theorem dX9_givenBelow_23 : decode cX9_givenBelow 23 = .ok (.ishr, 1) := by decide +kernel
theorem dX9_givenBelow_24 : decode cX9_givenBelow 24 = .ok (.iconst 1, 1) := by decide +kernel
theorem dX9_givenBelow_25 : decode cX9_givenBelow 25 = .ok (.iand, 1) := by decide +kernel
theorem dX9_givenBelow_26 : decode cX9_givenBelow 26 = .ok (.iconst 1, 1) := by decide +kernel
theorem dX9_givenBelow_27 : decode cX9_givenBelow 27 = .ok (.if_icmp .ne 20, 3) := by decide +kernel
theorem dX9_givenBelow_30 : decode cX9_givenBelow 30 = .ok (.iload_n 3, 1) := by decide +kernel
theorem dX9_givenBelow_31 : decode cX9_givenBelow 31 = .ok (.aload_n 0, 1) := by decide +kernel
theorem dX9_givenBelow_32 : decode cX9_givenBelow 32 = .ok (.getfield 26, 3) := by decide +kernel
theorem dX9_givenBelow_35 : decode cX9_givenBelow 35 = .ok (.getfield 245, 3) := by decide +kernel
theorem dX9_givenBelow_38 : decode cX9_givenBelow 38 = .ok (.iload 4, 2) := by decide +kernel
theorem dX9_givenBelow_40 : decode cX9_givenBelow 40 = .ok (.iaload, 1) := by decide +kernel
theorem dX9_givenBelow_41 : decode cX9_givenBelow 41 = .ok (.iload_n 2, 1) := by decide +kernel
theorem dX9_givenBelow_42 : decode cX9_givenBelow 42 = .ok (.invokestatic 133, 3) := by decide +kernel
theorem dX9_givenBelow_45 : decode cX9_givenBelow 45 = .ok (.iadd, 1) := by decide +kernel
theorem dX9_givenBelow_46 : decode cX9_givenBelow 46 = .ok (.istore_n 3, 1) := by decide +kernel
theorem dX9_givenBelow_47 : decode cX9_givenBelow 47 = .ok (.iinc 4 1, 3) := by decide +kernel
theorem dX9_givenBelow_50 : decode cX9_givenBelow 50 = .ok (.goto (-45), 3) := by decide +kernel
theorem dX9_givenBelow_53 : decode cX9_givenBelow 53 = .ok (.iload_n 3, 1) := by decide +kernel
theorem dX9_givenBelow_54 : decode cX9_givenBelow 54 = .ok (.ireturn, 1) := by decide +kernel
theorem dX9_slipsAfter_0 : decode cX9_slipsAfter 0 = .ok (.iload_n 0, 1) := by decide +kernel
theorem dX9_slipsAfter_1 : decode cX9_slipsAfter 1 = .ok (.istore_n 3, 1) := by decide +kernel
theorem dX9_slipsAfter_2 : decode cX9_slipsAfter 2 = .ok (.iload_n 1, 1) := by decide +kernel
theorem dX9_slipsAfter_3 : decode cX9_slipsAfter 3 = .ok (.bipush 8, 2) := by decide +kernel
theorem dX9_slipsAfter_5 : decode cX9_slipsAfter 5 = .ok (.if_icmp .ge 9, 3) := by decide +kernel
theorem dX9_slipsAfter_8 : decode cX9_slipsAfter 8 = .ok (.iload_n 3, 1) := by decide +kernel
theorem dX9_slipsAfter_9 : decode cX9_slipsAfter 9 = .ok (.iconst 1, 1) := by decide +kernel
theorem dX9_slipsAfter_10 : decode cX9_slipsAfter 10 = .ok (.iload_n 1, 1) := by decide +kernel
theorem dX9_slipsAfter_11 : decode cX9_slipsAfter 11 = .ok (.ishl, 1) := by decide +kernel
theorem dX9_slipsAfter_12 : decode cX9_slipsAfter 12 = .ok (.ixor, 1) := by decide +kernel
theorem dX9_slipsAfter_13 : decode cX9_slipsAfter 13 = .ok (.istore_n 3, 1) := by decide +kernel
theorem dX9_slipsAfter_14 : decode cX9_slipsAfter 14 = .ok (.iload_n 2, 1) := by decide +kernel
theorem dX9_slipsAfter_15 : decode cX9_slipsAfter 15 = .ok (.bipush 8, 2) := by decide +kernel
theorem dX9_slipsAfter_17 : decode cX9_slipsAfter 17 = .ok (.if_icmp .ge 9, 3) := by decide +kernel
theorem dX9_slipsAfter_20 : decode cX9_slipsAfter 20 = .ok (.iload_n 3, 1) := by decide +kernel
theorem dX9_slipsAfter_21 : decode cX9_slipsAfter 21 = .ok (.iconst 1, 1) := by decide +kernel
theorem dX9_slipsAfter_22 : decode cX9_slipsAfter 22 = .ok (.iload_n 2, 1) := by decide +kernel
theorem dX9_slipsAfter_23 : decode cX9_slipsAfter 23 = .ok (.ishl, 1) := by decide +kernel
theorem dX9_slipsAfter_24 : decode cX9_slipsAfter 24 = .ok (.ixor, 1) := by decide +kernel
theorem dX9_slipsAfter_25 : decode cX9_slipsAfter 25 = .ok (.istore_n 3, 1) := by decide +kernel
theorem dX9_slipsAfter_26 : decode cX9_slipsAfter 26 = .ok (.iload_n 3, 1) := by decide +kernel
theorem dX9_slipsAfter_27 : decode cX9_slipsAfter 27 = .ok (.invokestatic 221, 3) := by decide +kernel
theorem dX9_slipsAfter_30 : decode cX9_slipsAfter 30 = .ok (.ireturn, 1) := by decide +kernel
theorem dX9_gainOfOne_0 : decode cX9_gainOfOne 0 = .ok (.iload_n 0, 1) := by decide +kernel
theorem dX9_gainOfOne_1 : decode cX9_gainOfOne 1 = .ok (.iload_n 1, 1) := by decide +kernel
theorem dX9_gainOfOne_2 : decode cX9_gainOfOne 2 = .ok (.iload_n 2, 1) := by decide +kernel
theorem dX9_gainOfOne_3 : decode cX9_gainOfOne 3 = .ok (.invokestatic 398, 3) := by decide +kernel
theorem dX9_gainOfOne_6 : decode cX9_gainOfOne 6 = .ok (.iconst 1, 1) := by decide +kernel
theorem dX9_gainOfOne_7 : decode cX9_gainOfOne 7 = .ok (.if_icmp .gt 7, 3) := by decide +kernel
theorem dX9_gainOfOne_10 : decode cX9_gainOfOne 10 = .ok (.iconst 3, 1) := by decide +kernel
theorem dX9_gainOfOne_11 : decode cX9_gainOfOne 11 = .ok (.goto 4, 3) := by decide +kernel
theorem dX9_gainOfOne_14 : decode cX9_gainOfOne 14 = .ok (.iconst 0, 1) := by decide +kernel
theorem dX9_gainOfOne_15 : decode cX9_gainOfOne 15 = .ok (.ireturn, 1) := by decide +kernel
theorem dX9_gainOfOther_0 : decode cX9_gainOfOther 0 = .ok (.iload_n 0, 1) := by decide +kernel
theorem dX9_gainOfOther_1 : decode cX9_gainOfOther 1 = .ok (.iload_n 1, 1) := by decide +kernel
theorem dX9_gainOfOther_2 : decode cX9_gainOfOther 2 = .ok (.iload_n 2, 1) := by decide +kernel
theorem dX9_gainOfOther_3 : decode cX9_gainOfOther 3 = .ok (.invokestatic 398, 3) := by decide +kernel
theorem dX9_gainOfOther_6 : decode cX9_gainOfOther 6 = .ok (.istore_n 3, 1) := by decide +kernel
theorem dX9_gainOfOther_7 : decode cX9_gainOfOther 7 = .ok (.iload_n 3, 1) := by decide +kernel
theorem dX9_gainOfOther_8 : decode cX9_gainOfOther 8 = .ok (.iconst 1, 1) := by decide +kernel
theorem dX9_gainOfOther_9 : decode cX9_gainOfOther 9 = .ok (.if_icmp .gt 7, 3) := by decide +kernel
theorem dX9_gainOfOther_12 : decode cX9_gainOfOther 12 = .ok (.iconst 0, 1) := by decide +kernel
theorem dX9_gainOfOther_13 : decode cX9_gainOfOther 13 = .ok (.goto 4, 3) := by decide +kernel
theorem dX9_gainOfOther_16 : decode cX9_gainOfOther 16 = .ok (.iload_n 3, 1) := by decide +kernel
theorem dX9_gainOfOther_17 : decode cX9_gainOfOther 17 = .ok (.ireturn, 1) := by decide +kernel
theorem dX9_isRest_0 : decode cX9_isRest 0 = .ok (.iload_n 0, 1) := by decide +kernel
theorem dX9_isRest_1 : decode cX9_isRest 1 = .ok (.iload_n 1, 1) := by decide +kernel
theorem dX9_isRest_2 : decode cX9_isRest 2 = .ok (.iload_n 2, 1) := by decide +kernel
theorem dX9_isRest_3 : decode cX9_isRest 3 = .ok (.invokestatic 334, 3) := by decide +kernel
theorem dX9_isRest_6 : decode cX9_isRest 6 = .ok (.istore_n 3, 1) := by decide +kernel
theorem dX9_isRest_7 : decode cX9_isRest 7 = .ok (.iload_n 0, 1) := by decide +kernel
theorem dX9_isRest_8 : decode cX9_isRest 8 = .ok (.iload_n 1, 1) := by decide +kernel
theorem dX9_isRest_9 : decode cX9_isRest 9 = .ok (.iload_n 2, 1) := by decide +kernel
theorem dX9_isRest_10 : decode cX9_isRest 10 = .ok (.invokestatic 338, 3) := by decide +kernel
theorem dX9_isRest_13 : decode cX9_isRest 13 = .ok (.istore 4, 2) := by decide +kernel
theorem dX9_isRest_15 : decode cX9_isRest 15 = .ok (.iconst 0, 1) := by decide +kernel
theorem dX9_isRest_16 : decode cX9_isRest 16 = .ok (.istore 5, 2) := by decide +kernel
theorem dX9_isRest_18 : decode cX9_isRest 18 = .ok (.iload 5, 2) := by decide +kernel
theorem dX9_isRest_20 : decode cX9_isRest 20 = .ok (.bipush 9, 2) := by decide +kernel
theorem dX9_isRest_22 : decode cX9_isRest 22 = .ok (.if_icmp .ge 34, 3) := by decide +kernel
theorem dX9_isRest_25 : decode cX9_isRest 25 = .ok (.iload_n 0, 1) := by decide +kernel
theorem dX9_isRest_26 : decode cX9_isRest 26 = .ok (.iload 5, 2) := by decide +kernel
theorem dX9_isRest_28 : decode cX9_isRest 28 = .ok (.iload_n 2, 1) := by decide +kernel
theorem dX9_isRest_29 : decode cX9_isRest 29 = .ok (.invokestatic 334, 3) := by decide +kernel
theorem dX9_isRest_32 : decode cX9_isRest 32 = .ok (.iload_n 3, 1) := by decide +kernel
theorem dX9_isRest_33 : decode cX9_isRest 33 = .ok (.if_icmp .gt 15, 3) := by decide +kernel
theorem dX9_isRest_36 : decode cX9_isRest 36 = .ok (.iload_n 0, 1) := by decide +kernel
theorem dX9_isRest_37 : decode cX9_isRest 37 = .ok (.iload_n 1, 1) := by decide +kernel
theorem dX9_isRest_38 : decode cX9_isRest 38 = .ok (.iload 5, 2) := by decide +kernel
theorem dX9_isRest_40 : decode cX9_isRest 40 = .ok (.invokestatic 338, 3) := by decide +kernel
theorem dX9_isRest_43 : decode cX9_isRest 43 = .ok (.iload 4, 2) := by decide +kernel
theorem dX9_isRest_45 : decode cX9_isRest 45 = .ok (.if_icmp .le 5, 3) := by decide +kernel
theorem dX9_isRest_48 : decode cX9_isRest 48 = .ok (.iconst 0, 1) := by decide +kernel
theorem dX9_isRest_49 : decode cX9_isRest 49 = .ok (.ireturn, 1) := by decide +kernel
theorem dX9_isRest_50 : decode cX9_isRest 50 = .ok (.iinc 5 1, 3) := by decide +kernel
theorem dX9_isRest_53 : decode cX9_isRest 53 = .ok (.goto (-35), 3) := by decide +kernel
theorem dX9_isRest_56 : decode cX9_isRest 56 = .ok (.iconst 1, 1) := by decide +kernel
theorem dX9_isRest_57 : decode cX9_isRest 57 = .ok (.ireturn, 1) := by decide +kernel
