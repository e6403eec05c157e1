theorem dXM_init_0 : decode cXM_init 0 = .ok (.aload_n 0, 1) := by decide +kernel
theorem dXM_init_1 : decode cXM_init 1 = .ok (.invokespecial 1, 3) := by decide +kernel
theorem dXM_init_4 : decode cXM_init 4 = .ok (.aload_n 0, 1) := by decide +kernel
theorem dXM_init_5 : decode cXM_init 5 = .ok (.sipush 168, 3) := by decide +kernel
theorem dXM_init_8 : decode cXM_init 8 = .ok (.newarray .int, 2) := by decide +kernel
theorem dXM_init_10 : decode cXM_init 10 = .ok (.putfield 7, 3) := by decide +kernel
theorem dXM_init_13 : decode cXM_init 13 = .ok (.aload_n 0, 1) := by decide +kernel
theorem dXM_init_14 : decode cXM_init 14 = .ok (.sipush 3640, 3) := by decide +kernel
theorem dXM_init_17 : decode cXM_init 17 = .ok (.newarray .int, 2) := by decide +kernel
theorem dXM_init_19 : decode cXM_init 19 = .ok (.putfield 13, 3) := by decide +kernel
theorem dXM_init_22 : decode cXM_init 22 = .ok (.aload_n 0, 1) := by decide +kernel
theorem dXM_init_23 : decode cXM_init 23 = .ok (.sipush 3640, 3) := by decide +kernel
theorem dXM_init_26 : decode cXM_init 26 = .ok (.newarray .int, 2) := by decide +kernel
theorem dXM_init_28 : decode cXM_init 28 = .ok (.putfield 16, 3) := by decide +kernel
theorem dXM_init_31 : decode cXM_init 31 = .ok (.aload_n 0, 1) := by decide +kernel
theorem dXM_init_32 : decode cXM_init 32 = .ok (.sipush 520, 3) := by decide +kernel
theorem dXM_init_35 : decode cXM_init 35 = .ok (.newarray .int, 2) := by decide +kernel
theorem dXM_init_37 : decode cXM_init 37 = .ok (.putfield 19, 3) := by decide +kernel
theorem dXM_init_40 : decode cXM_init 40 = .ok (.aload_n 0, 1) := by decide +kernel
theorem dXM_init_41 : decode cXM_init 41 = .ok (.sipush 520, 3) := by decide +kernel
theorem dXM_init_44 : decode cXM_init 44 = .ok (.newarray .int, 2) := by decide +kernel
theorem dXM_init_46 : decode cXM_init 46 = .ok (.putfield 22, 3) := by decide +kernel
theorem dXM_init_49 : decode cXM_init 49 = .ok (.aload_n 0, 1) := by decide +kernel
theorem dXM_init_50 : decode cXM_init 50 = .ok (.sipush 520, 3) := by decide +kernel
theorem dXM_init_53 : decode cXM_init 53 = .ok (.newarray .int, 2) := by decide +kernel
theorem dXM_init_55 : decode cXM_init 55 = .ok (.putfield 25, 3) := by decide +kernel
theorem dXM_init_58 : decode cXM_init 58 = .ok (.aload_n 0, 1) := by decide +kernel
theorem dXM_init_59 : decode cXM_init 59 = .ok (.bipush 7, 2) := by decide +kernel
theorem dXM_init_61 : decode cXM_init 61 = .ok (.newarray .int, 2) := by decide +kernel
theorem dXM_init_63 : decode cXM_init 63 = .ok (.putfield 28, 3) := by decide +kernel
theorem dXM_init_66 : decode cXM_init 66 = .ok (.aload_n 0, 1) := by decide +kernel
theorem dXM_init_67 : decode cXM_init 67 = .ok (.iload_n 1, 1) := by decide +kernel
theorem dXM_init_68 : decode cXM_init 68 = .ok (.iconst 2, 1) := by decide +kernel
theorem dXM_init_69 : decode cXM_init 69 = .ok (.if_icmp .ge 7, 3) := by decide +kernel
theorem dXM_init_72 : decode cXM_init 72 = .ok (.iconst 2, 1) := by decide +kernel
theorem dXM_init_73 : decode cXM_init 73 = .ok (.goto 15, 3) := by decide +kernel
theorem dXM_init_76 : decode cXM_init 76 = .ok (.iload_n 1, 1) := by decide +kernel
theorem dXM_init_77 : decode cXM_init 77 = .ok (.bipush 20, 2) := by decide +kernel
theorem dXM_init_79 : decode cXM_init 79 = .ok (.if_icmp .le 8, 3) := by decide +kernel
theorem dXM_init_82 : decode cXM_init 82 = .ok (.bipush 20, 2) := by decide +kernel
theorem dXM_init_84 : decode cXM_init 84 = .ok (.goto 4, 3) := by decide +kernel
theorem dXM_init_87 : decode cXM_init 87 = .ok (.iload_n 1, 1) := by decide +kernel
theorem dXM_init_88 : decode cXM_init 88 = .ok (.putfield 31, 3) := by decide +kernel
theorem dXM_init_91 : decode cXM_init 91 = .ok (.aload_n 0, 1) := by decide +kernel
theorem dXM_init_92 : decode cXM_init 92 = .ok (.iload_n 2, 1) := by decide +kernel
theorem dXM_init_93 : decode cXM_init 93 = .ok (.ifCond .ge 7, 3) := by decide +kernel
theorem dXM_init_96 : decode cXM_init 96 = .ok (.iconst 0, 1) := by decide +kernel
theorem dXM_init_97 : decode cXM_init 97 = .ok (.goto 15, 3) := by decide +kernel
theorem dXM_init_100 : decode cXM_init 100 = .ok (.iload_n 2, 1) := by decide +kernel
theorem dXM_init_101 : decode cXM_init 101 = .ok (.bipush 50, 2) := by decide +kernel
theorem dXM_init_103 : decode cXM_init 103 = .ok (.if_icmp .le 8, 3) := by decide +kernel
theorem dXM_init_106 : decode cXM_init 106 = .ok (.bipush 50, 2) := by decide +kernel
theorem dXM_init_108 : decode cXM_init 108 = .ok (.goto 4, 3) := by decide +kernel
theorem dXM_init_111 : decode cXM_init 111 = .ok (.iload_n 2, 1) := by decide +kernel
theorem dXM_init_112 : decode cXM_init 112 = .ok (.putfield 35, 3) := by decide +kernel
theorem dXM_init_115 : decode cXM_init 115 = .ok (.return_, 1) := by decide +kernel
theorem dXM_put_0 : decode cXM_put 0 = .ok (.iload_n 1, 1) := by decide +kernel
theorem dXM_put_1 : decode cXM_put 1 = .ok (.iload_n 2, 1) := by decide +kernel
theorem dXM_put_2 : decode cXM_put 2 = .ok (.invokestatic 67, 3) := by decide +kernel
theorem dXM_put_5 : decode cXM_put 5 = .ok (.ifCond .eq 22, 3) := by decide +kernel
theorem dXM_put_8 : decode cXM_put 8 = .ok (.iload_n 3, 1) := by decide +kernel
theorem dXM_put_9 : decode cXM_put 9 = .ok (.invokestatic 71, 3) := by decide +kernel
theorem dXM_put_12 : decode cXM_put 12 = .ok (.ifCond .eq 15, 3) := by decide +kernel
theorem dXM_put_15 : decode cXM_put 15 = .ok (.iload 5, 2) := by decide +kernel
theorem dXM_put_17 : decode cXM_put 17 = .ok (.ifCond .lt 10, 3) := by decide +kernel
theorem dXM_put_20 : decode cXM_put 20 = .ok (.iload 5, 2) := by decide +kernel
theorem dXM_put_22 : decode cXM_put 22 = .ok (.bipush 100, 2) := by decide +kernel
theorem dXM_put_24 : decode cXM_put 24 = .ok (.if_icmp .le 5, 3) := by decide +kernel
theorem dXM_put_27 : decode cXM_put 27 = .ok (.iconst 0, 1) := by decide +kernel
theorem dXM_put_28 : decode cXM_put 28 = .ok (.ireturn, 1) := by decide +kernel
theorem dXM_put_29 : decode cXM_put 29 = .ok (.aload_n 0, 1) := by decide +kernel
theorem dXM_put_30 : decode cXM_put 30 = .ok (.iconst 0, 1) := by decide +kernel
theorem dXM_put_31 : decode cXM_put 31 = .ok (.iload_n 1, 1) := by decide +kernel
theorem dXM_put_32 : decode cXM_put 32 = .ok (.iload_n 2, 1) := by decide +kernel
theorem dXM_put_33 : decode cXM_put 33 = .ok (.iload_n 2, 1) := by decide +kernel
theorem dXM_put_34 : decode cXM_put 34 = .ok (.iload_n 3, 1) := by decide +kernel
theorem dXM_put_35 : decode cXM_put 35 = .ok (.iload 4, 2) := by decide +kernel
theorem dXM_put_37 : decode cXM_put 37 = .ok (.iload 5, 2) := by decide +kernel
theorem dXM_put_39 : decode cXM_put 39 = .ok (.ifCond .ne 7, 3) := by decide +kernel
theorem dXM_put_42 : decode cXM_put 42 = .ok (.iconst (-1), 1) := by decide +kernel
theorem dXM_put_43 : decode cXM_put 43 = .ok (.goto 10, 3) := by decide +kernel
theorem dXM_put_46 : decode cXM_put 46 = .ok (.aload_n 0, 1) := by decide +kernel
theorem dXM_put_47 : decode cXM_put 47 = .ok (.getfield 75, 3) := by decide +kernel
theorem dXM_put_50 : decode cXM_put 50 = .ok (.iload 5, 2) := by decide +kernel
theorem dXM_put_52 : decode cXM_put 52 = .ok (.iadd, 1) := by decide +kernel
theorem dXM_put_53 : decode cXM_put 53 = .ok (.invokevirtual 78, 3) := by decide +kernel
theorem dXM_put_56 : decode cXM_put 56 = .ok (.ireturn, 1) := by decide +kernel
theorem dXM_isPlace_0 : decode cXM_isPlace 0 = .ok (.iload_n 0, 1) := by decide +kernel
theorem dXM_isPlace_1 : decode cXM_isPlace 1 = .ok (.ifCond .lt 23, 3) := by decide +kernel
theorem dXM_isPlace_4 : decode cXM_isPlace 4 = .ok (.iload_n 0, 1) := by decide +kernel
theorem dXM_isPlace_5 : decode cXM_isPlace 5 = .ok (.bipush 15, 2) := by decide +kernel
theorem dXM_isPlace_7 : decode cXM_isPlace 7 = .ok (.if_icmp .gt 17, 3) := by decide +kernel
theorem dXM_isPlace_10 : decode cXM_isPlace 10 = .ok (.iload_n 1, 1) := by decide +kernel
theorem dXM_isPlace_11 : decode cXM_isPlace 11 = .ok (.ifCond .lt 13, 3) := by decide +kernel
theorem dXM_isPlace_14 : decode cXM_isPlace 14 = .ok (.iload_n 1, 1) := by decide +kernel
theorem dXM_isPlace_15 : decode cXM_isPlace 15 = .ok (.bipush 7, 2) := by decide +kernel
theorem dXM_isPlace_17 : decode cXM_isPlace 17 = .ok (.if_icmp .gt 7, 3) := by decide +kernel
theorem dXM_isPlace_20 : decode cXM_isPlace 20 = .ok (.iconst 1, 1) := by decide +kernel
theorem dXM_isPlace_21 : decode cXM_isPlace 21 = .ok (.goto 4, 3) := by decide +kernel
theorem dXM_isPlace_24 : decode cXM_isPlace 24 = .ok (.iconst 0, 1) := by decide +kernel
theorem dXM_isPlace_25 : decode cXM_isPlace 25 = .ok (.ireturn, 1) := by decide +kernel
theorem dXM_isStamp_0 : decode cXM_isStamp 0 = .ok (.iload_n 0, 1) := by decide +kernel
theorem dXM_isStamp_1 : decode cXM_isStamp 1 = .ok (.ifCond .lt 14, 3) := by decide +kernel
theorem dXM_isStamp_4 : decode cXM_isStamp 4 = .ok (.iload_n 0, 1) := by decide +kernel
theorem dXM_isStamp_5 : decode cXM_isStamp 5 = .ok (.sipush 9999, 3) := by decide +kernel
theorem dXM_isStamp_8 : decode cXM_isStamp 8 = .ok (.if_icmp .gt 7, 3) := by decide +kernel
theorem dXM_isStamp_11 : decode cXM_isStamp 11 = .ok (.iconst 1, 1) := by decide +kernel
theorem dXM_isStamp_12 : decode cXM_isStamp 12 = .ok (.goto 4, 3) := by decide +kernel
theorem dXM_isStamp_15 : decode cXM_isStamp 15 = .ok (.iconst 0, 1) := by decide +kernel
theorem dXM_isStamp_16 : decode cXM_isStamp 16 = .ok (.ireturn, 1) := by decide +kernel
theorem dXM_add_0 : decode cXM_add 0 = .ok (.bipush 7, 2) := by decide +kernel
theorem dXM_add_2 : decode cXM_add 2 = .ok (.aload_n 0, 1) := by decide +kernel
theorem dXM_add_3 : decode cXM_add 3 = .ok (.getfield 56, 3) := by decide +kernel
theorem dXM_add_6 : decode cXM_add 6 = .ok (.imul, 1) := by decide +kernel
theorem dXM_add_7 : decode cXM_add 7 = .ok (.istore 8, 2) := by decide +kernel
theorem dXM_add_9 : decode cXM_add 9 = .ok (.aload_n 0, 1) := by decide +kernel
theorem dXM_add_10 : decode cXM_add 10 = .ok (.getfield 13, 3) := by decide +kernel
theorem dXM_add_13 : decode cXM_add 13 = .ok (.iload 8, 2) := by decide +kernel
theorem dXM_add_15 : decode cXM_add 15 = .ok (.iload_n 1, 1) := by decide +kernel
theorem dXM_add_16 : decode cXM_add 16 = .ok (.iastore, 1) := by decide +kernel
theorem dXM_add_17 : decode cXM_add 17 = .ok (.aload_n 0, 1) := by decide +kernel
theorem dXM_add_18 : decode cXM_add 18 = .ok (.getfield 13, 3) := by decide +kernel
theorem dXM_add_21 : decode cXM_add 21 = .ok (.iload 8, 2) := by decide +kernel
theorem dXM_add_23 : decode cXM_add 23 = .ok (.iconst 1, 1) := by decide +kernel
theorem dXM_add_24 : decode cXM_add 24 = .ok (.iadd, 1) := by decide +kernel
theorem dXM_add_25 : decode cXM_add 25 = .ok (.iload_n 2, 1) := by decide +kernel
theorem dXM_add_26 : decode cXM_add 26 = .ok (.iastore, 1) := by decide +kernel
theorem dXM_add_27 : decode cXM_add 27 = .ok (.aload_n 0, 1) := by decide +kernel
theorem dXM_add_28 : decode cXM_add 28 = .ok (.getfield 13, 3) := by decide +kernel
theorem dXM_add_31 : decode cXM_add 31 = .ok (.iload 8, 2) := by decide +kernel
theorem dXM_add_33 : decode cXM_add 33 = .ok (.iconst 2, 1) := by decide +kernel
theorem dXM_add_34 : decode cXM_add 34 = .ok (.iadd, 1) := by decide +kernel
theorem dXM_add_35 : decode cXM_add 35 = .ok (.iload_n 3, 1) := by decide +kernel
theorem dXM_add_36 : decode cXM_add 36 = .ok (.iastore, 1) := by decide +kernel
theorem dXM_add_37 : decode cXM_add 37 = .ok (.aload_n 0, 1) := by decide +kernel
theorem dXM_add_38 : decode cXM_add 38 = .ok (.getfield 13, 3) := by decide +kernel
theorem dXM_add_41 : decode cXM_add 41 = .ok (.iload 8, 2) := by decide +kernel
theorem dXM_add_43 : decode cXM_add 43 = .ok (.iconst 3, 1) := by decide +kernel
theorem dXM_add_44 : decode cXM_add 44 = .ok (.iadd, 1) := by decide +kernel
theorem dXM_add_45 : decode cXM_add 45 = .ok (.iload 4, 2) := by decide +kernel
theorem dXM_add_47 : decode cXM_add 47 = .ok (.iastore, 1) := by decide +kernel
theorem dXM_add_48 : decode cXM_add 48 = .ok (.aload_n 0, 1) := by decide +kernel
theorem dXM_add_49 : decode cXM_add 49 = .ok (.getfield 13, 3) := by decide +kernel
theorem dXM_add_52 : decode cXM_add 52 = .ok (.iload 8, 2) := by decide +kernel
theorem dXM_add_54 : decode cXM_add 54 = .ok (.iconst 4, 1) := by decide +kernel
theorem dXM_add_55 : decode cXM_add 55 = .ok (.iadd, 1) := by decide +kernel
theorem dXM_add_56 : decode cXM_add 56 = .ok (.iload 5, 2) := by decide +kernel
theorem dXM_add_58 : decode cXM_add 58 = .ok (.iastore, 1) := by decide +kernel
theorem dXM_add_59 : decode cXM_add 59 = .ok (.aload_n 0, 1) := by decide +kernel
theorem dXM_add_60 : decode cXM_add 60 = .ok (.getfield 13, 3) := by decide +kernel
theorem dXM_add_63 : decode cXM_add 63 = .ok (.iload 8, 2) := by decide +kernel
theorem dXM_add_65 : decode cXM_add 65 = .ok (.iconst 5, 1) := by decide +kernel
theorem dXM_add_66 : decode cXM_add 66 = .ok (.iadd, 1) := by decide +kernel
theorem dXM_add_67 : decode cXM_add 67 = .ok (.iload 6, 2) := by decide +kernel
theorem dXM_add_69 : decode cXM_add 69 = .ok (.iastore, 1) := by decide +kernel
theorem dXM_add_70 : decode cXM_add 70 = .ok (.aload_n 0, 1) := by decide +kernel
theorem dXM_add_71 : decode cXM_add 71 = .ok (.getfield 13, 3) := by decide +kernel
theorem dXM_add_74 : decode cXM_add 74 = .ok (.iload 8, 2) := by decide +kernel
theorem dXM_add_76 : decode cXM_add 76 = .ok (.bipush 6, 2) := by decide +kernel
theorem dXM_add_78 : decode cXM_add 78 = .ok (.iadd, 1) := by decide +kernel
theorem dXM_add_79 : decode cXM_add 79 = .ok (.iload 7, 2) := by decide +kernel
theorem dXM_add_81 : decode cXM_add 81 = .ok (.iastore, 1) := by decide +kernel
theorem dXM_add_82 : decode cXM_add 82 = .ok (.aload_n 0, 1) := by decide +kernel
theorem dXM_add_83 : decode cXM_add 83 = .ok (.dup, 1) := by decide +kernel
theorem dXM_add_84 : decode cXM_add 84 = .ok (.getfield 56, 3) := by decide +kernel
theorem dXM_add_87 : decode cXM_add 87 = .ok (.iconst 1, 1) := by decide +kernel
theorem dXM_add_88 : decode cXM_add 88 = .ok (.iadd, 1) := by decide +kernel
theorem dXM_add_89 : decode cXM_add 89 = .ok (.putfield 56, 3) := by decide +kernel
theorem dXM_add_92 : decode cXM_add 92 = .ok (.aload_n 0, 1) := by decide +kernel
theorem dXM_add_93 : decode cXM_add 93 = .ok (.iload 8, 2) := by decide +kernel
theorem dXM_add_95 : decode cXM_add 95 = .ok (.invokevirtual 59, 3) := by decide +kernel
theorem dXM_add_98 : decode cXM_add 98 = .ok (.aload_n 0, 1) := by decide +kernel
theorem dXM_add_99 : decode cXM_add 99 = .ok (.getfield 42, 3) := by decide +kernel
theorem dXM_add_102 : decode cXM_add 102 = .ok (.aload_n 0, 1) := by decide +kernel
theorem dXM_add_103 : decode cXM_add 103 = .ok (.getfield 31, 3) := by decide +kernel
theorem dXM_add_106 : decode cXM_add 106 = .ok (.if_icmp .le 9, 3) := by decide +kernel
theorem dXM_add_109 : decode cXM_add 109 = .ok (.aload_n 0, 1) := by decide +kernel
theorem dXM_add_110 : decode cXM_add 110 = .ok (.invokevirtual 63, 3) := by decide +kernel
theorem dXM_add_113 : decode cXM_add 113 = .ok (.istore 9, 2) := by decide +kernel
theorem dXM_add_115 : decode cXM_add 115 = .ok (.iconst 1, 1) := by decide +kernel
theorem dXM_add_116 : decode cXM_add 116 = .ok (.ireturn, 1) := by decide +kernel
theorem dXM_remember_0 : decode cXM_remember 0 = .ok (.iconst 0, 1) := by decide +kernel
theorem dXM_remember_1 : decode cXM_remember 1 = .ok (.istore_n 2, 1) := by decide +kernel
theorem dXM_remember_2 : decode cXM_remember 2 = .ok (.iload_n 2, 1) := by decide +kernel
theorem dXM_remember_3 : decode cXM_remember 3 = .ok (.aload_n 0, 1) := by decide +kernel
theorem dXM_remember_4 : decode cXM_remember 4 = .ok (.getfield 42, 3) := by decide +kernel
theorem dXM_remember_7 : decode cXM_remember 7 = .ok (.if_icmp .ge 64, 3) := by decide +kernel
theorem dXM_remember_10 : decode cXM_remember 10 = .ok (.aload_n 0, 1) := by decide +kernel
theorem dXM_remember_11 : decode cXM_remember 11 = .ok (.getfield 7, 3) := by decide +kernel
theorem dXM_remember_14 : decode cXM_remember 14 = .ok (.bipush 7, 2) := by decide +kernel
theorem dXM_remember_16 : decode cXM_remember 16 = .ok (.iload_n 2, 1) := by decide +kernel
theorem dXM_remember_17 : decode cXM_remember 17 = .ok (.imul, 1) := by decide +kernel
theorem dXM_remember_18 : decode cXM_remember 18 = .ok (.aload_n 0, 1) := by decide +kernel
theorem dXM_remember_19 : decode cXM_remember 19 = .ok (.getfield 13, 3) := by decide +kernel
theorem dXM_remember_22 : decode cXM_remember 22 = .ok (.iload_n 1, 1) := by decide +kernel
theorem dXM_remember_23 : decode cXM_remember 23 = .ok (.invokestatic 45, 3) := by decide +kernel
theorem dXM_remember_26 : decode cXM_remember 26 = .ok (.ifCond .eq 39, 3) := by decide +kernel
theorem dXM_remember_29 : decode cXM_remember 29 = .ok (.aload_n 0, 1) := by decide +kernel
theorem dXM_remember_30 : decode cXM_remember 30 = .ok (.getfield 13, 3) := by decide +kernel
theorem dXM_remember_33 : decode cXM_remember 33 = .ok (.iload_n 1, 1) := by decide +kernel
theorem dXM_remember_34 : decode cXM_remember 34 = .ok (.aload_n 0, 1) := by decide +kernel
theorem dXM_remember_35 : decode cXM_remember 35 = .ok (.getfield 7, 3) := by decide +kernel
theorem dXM_remember_38 : decode cXM_remember 38 = .ok (.bipush 7, 2) := by decide +kernel
theorem dXM_remember_40 : decode cXM_remember 40 = .ok (.iload_n 2, 1) := by decide +kernel
theorem dXM_remember_41 : decode cXM_remember 41 = .ok (.imul, 1) := by decide +kernel
theorem dXM_remember_42 : decode cXM_remember 42 = .ok (.invokestatic 49, 3) := by decide +kernel
theorem dXM_remember_45 : decode cXM_remember 45 = .ok (.ifCond .eq 19, 3) := by decide +kernel
theorem dXM_remember_48 : decode cXM_remember 48 = .ok (.aload_n 0, 1) := by decide +kernel
theorem dXM_remember_49 : decode cXM_remember 49 = .ok (.getfield 13, 3) := by decide +kernel
theorem dXM_remember_52 : decode cXM_remember 52 = .ok (.iload_n 1, 1) := by decide +kernel
theorem dXM_remember_53 : decode cXM_remember 53 = .ok (.aload_n 0, 1) := by decide +kernel
theorem dXM_remember_54 : decode cXM_remember 54 = .ok (.getfield 7, 3) := by decide +kernel
theorem dXM_remember_57 : decode cXM_remember 57 = .ok (.bipush 7, 2) := by decide +kernel
theorem dXM_remember_59 : decode cXM_remember 59 = .ok (.iload_n 2, 1) := by decide +kernel
theorem dXM_remember_60 : decode cXM_remember 60 = .ok (.imul, 1) := by decide +kernel
theorem dXM_remember_61 : decode cXM_remember 61 = .ok (.invokestatic 52, 3) := by decide +kernel
theorem dXM_remember_64 : decode cXM_remember 64 = .ok (.return_, 1) := by decide +kernel
theorem dXM_remember_65 : decode cXM_remember 65 = .ok (.iinc 2 1, 3) := by decide +kernel
theorem dXM_remember_68 : decode cXM_remember 68 = .ok (.goto (-66), 3) := by decide +kernel
theorem dXM_remember_71 : decode cXM_remember 71 = .ok (.aload_n 0, 1) := by decide +kernel
theorem dXM_remember_72 : decode cXM_remember 72 = .ok (.getfield 13, 3) := by decide +kernel
theorem dXM_remember_75 : decode cXM_remember 75 = .ok (.iload_n 1, 1) := by decide +kernel
theorem dXM_remember_76 : decode cXM_remember 76 = .ok (.aload_n 0, 1) := by decide +kernel
theorem dXM_remember_77 : decode cXM_remember 77 = .ok (.getfield 7, 3) := by decide +kernel
theorem dXM_remember_80 : decode cXM_remember 80 = .ok (.bipush 7, 2) := by decide +kernel
theorem dXM_remember_82 : decode cXM_remember 82 = .ok (.aload_n 0, 1) := by decide +kernel
theorem dXM_remember_83 : decode cXM_remember 83 = .ok (.getfield 42, 3) := by decide +kernel
theorem dXM_remember_86 : decode cXM_remember 86 = .ok (.imul, 1) := by decide +kernel
theorem dXM_remember_87 : decode cXM_remember 87 = .ok (.invokestatic 52, 3) := by decide +kernel
theorem dXM_remember_90 : decode cXM_remember 90 = .ok (.aload_n 0, 1) := by decide +kernel
theorem dXM_remember_91 : decode cXM_remember 91 = .ok (.dup, 1) := by decide +kernel
theorem dXM_remember_92 : decode cXM_remember 92 = .ok (.getfield 42, 3) := by decide +kernel
theorem dXM_remember_95 : decode cXM_remember 95 = .ok (.iconst 1, 1) := by decide +kernel
theorem dXM_remember_96 : decode cXM_remember 96 = .ok (.iadd, 1) := by decide +kernel
theorem dXM_remember_97 : decode cXM_remember 97 = .ok (.putfield 42, 3) := by decide +kernel
theorem dXM_remember_100 : decode cXM_remember 100 = .ok (.return_, 1) := by decide +kernel
theorem dXM_alike_0 : decode cXM_alike 0 = .ok (.aload_n 0, 1) := by decide +kernel
theorem dXM_alike_1 : decode cXM_alike 1 = .ok (.iload_n 1, 1) := by decide +kernel
theorem dXM_alike_2 : decode cXM_alike 2 = .ok (.iconst 1, 1) := by decide +kernel
theorem dXM_alike_3 : decode cXM_alike 3 = .ok (.iadd, 1) := by decide +kernel
theorem dXM_alike_4 : decode cXM_alike 4 = .ok (.iaload, 1) := by decide +kernel
theorem dXM_alike_5 : decode cXM_alike 5 = .ok (.aload_n 2, 1) := by decide +kernel
theorem dXM_alike_6 : decode cXM_alike 6 = .ok (.iload_n 3, 1) := by decide +kernel
theorem dXM_alike_7 : decode cXM_alike 7 = .ok (.iconst 1, 1) := by decide +kernel
theorem dXM_alike_8 : decode cXM_alike 8 = .ok (.iadd, 1) := by decide +kernel
theorem dXM_alike_9 : decode cXM_alike 9 = .ok (.iaload, 1) := by decide +kernel
theorem dXM_alike_10 : decode cXM_alike 10 = .ok (.if_icmp .ne 20, 3) := by decide +kernel
theorem dXM_alike_13 : decode cXM_alike 13 = .ok (.aload_n 0, 1) := by decide +kernel
theorem dXM_alike_14 : decode cXM_alike 14 = .ok (.iload_n 1, 1) := by decide +kernel
theorem dXM_alike_15 : decode cXM_alike 15 = .ok (.iconst 2, 1) := by decide +kernel
theorem dXM_alike_16 : decode cXM_alike 16 = .ok (.iadd, 1) := by decide +kernel
theorem dXM_alike_17 : decode cXM_alike 17 = .ok (.iaload, 1) := by decide +kernel
theorem dXM_alike_18 : decode cXM_alike 18 = .ok (.aload_n 2, 1) := by decide +kernel
theorem dXM_alike_19 : decode cXM_alike 19 = .ok (.iload_n 3, 1) := by decide +kernel
theorem dXM_alike_20 : decode cXM_alike 20 = .ok (.iconst 2, 1) := by decide +kernel
theorem dXM_alike_21 : decode cXM_alike 21 = .ok (.iadd, 1) := by decide +kernel
theorem dXM_alike_22 : decode cXM_alike 22 = .ok (.iaload, 1) := by decide +kernel
theorem dXM_alike_23 : decode cXM_alike 23 = .ok (.if_icmp .ne 7, 3) := by decide +kernel
theorem dXM_alike_26 : decode cXM_alike 26 = .ok (.iconst 1, 1) := by decide +kernel
theorem dXM_alike_27 : decode cXM_alike 27 = .ok (.goto 4, 3) := by decide +kernel
theorem dXM_alike_30 : decode cXM_alike 30 = .ok (.iconst 0, 1) := by decide +kernel
theorem dXM_alike_31 : decode cXM_alike 31 = .ok (.istore 4, 2) := by decide +kernel
theorem dXM_alike_33 : decode cXM_alike 33 = .ok (.iload 4, 2) := by decide +kernel
theorem dXM_alike_35 : decode cXM_alike 35 = .ok (.ifCond .eq 41, 3) := by decide +kernel
theorem dXM_alike_38 : decode cXM_alike 38 = .ok (.aload_n 0, 1) := by decide +kernel
theorem dXM_alike_39 : decode cXM_alike 39 = .ok (.iload_n 1, 1) := by decide +kernel
theorem dXM_alike_40 : decode cXM_alike 40 = .ok (.invokestatic 38, 3) := by decide +kernel
theorem dXM_alike_43 : decode cXM_alike 43 = .ok (.aload_n 2, 1) := by decide +kernel
theorem dXM_alike_44 : decode cXM_alike 44 = .ok (.iload_n 3, 1) := by decide +kernel
theorem dXM_alike_45 : decode cXM_alike 45 = .ok (.invokestatic 38, 3) := by decide +kernel
theorem dXM_alike_48 : decode cXM_alike 48 = .ok (.if_icmp .ne 28, 3) := by decide +kernel
theorem dXM_alike_51 : decode cXM_alike 51 = .ok (.aload_n 0, 1) := by decide +kernel
theorem dXM_alike_52 : decode cXM_alike 52 = .ok (.iload_n 1, 1) := by decide +kernel
theorem dXM_alike_53 : decode cXM_alike 53 = .ok (.invokestatic 38, 3) := by decide +kernel
theorem dXM_alike_56 : decode cXM_alike 56 = .ok (.ifCond .ne 16, 3) := by decide +kernel
theorem dXM_alike_59 : decode cXM_alike 59 = .ok (.aload_n 0, 1) := by decide +kernel
theorem dXM_alike_60 : decode cXM_alike 60 = .ok (.iload_n 1, 1) := by decide +kernel
theorem dXM_alike_61 : decode cXM_alike 61 = .ok (.iconst 3, 1) := by decide +kernel
theorem dXM_alike_62 : decode cXM_alike 62 = .ok (.iadd, 1) := by decide +kernel
theorem dXM_alike_63 : decode cXM_alike 63 = .ok (.iaload, 1) := by decide +kernel
theorem dXM_alike_64 : decode cXM_alike 64 = .ok (.aload_n 2, 1) := by decide +kernel
theorem dXM_alike_65 : decode cXM_alike 65 = .ok (.iload_n 3, 1) := by decide +kernel
theorem dXM_alike_66 : decode cXM_alike 66 = .ok (.iconst 3, 1) := by decide +kernel
theorem dXM_alike_67 : decode cXM_alike 67 = .ok (.iadd, 1) := by decide +kernel
theorem dXM_alike_68 : decode cXM_alike 68 = .ok (.iaload, 1) := by decide +kernel
theorem dXM_alike_69 : decode cXM_alike 69 = .ok (.if_icmp .ne 7, 3) := by decide +kernel
theorem dXM_alike_72 : decode cXM_alike 72 = .ok (.iconst 1, 1) := by decide +kernel
theorem dXM_alike_73 : decode cXM_alike 73 = .ok (.goto 4, 3) := by decide +kernel
theorem dXM_alike_76 : decode cXM_alike 76 = .ok (.iconst 0, 1) := by decide +kernel
theorem dXM_alike_77 : decode cXM_alike 77 = .ok (.ireturn, 1) := by decide +kernel
theorem dXM_point_0 : decode cXM_point 0 = .ok (.aload_n 0, 1) := by decide +kernel
theorem dXM_point_1 : decode cXM_point 1 = .ok (.iload_n 1, 1) := by decide +kernel
theorem dXM_point_2 : decode cXM_point 2 = .ok (.iaload, 1) := by decide +kernel
theorem dXM_point_3 : decode cXM_point 3 = .ok (.iconst 2, 1) := by decide +kernel
theorem dXM_point_4 : decode cXM_point 4 = .ok (.if_icmp .eq 7, 3) := by decide +kernel
theorem dXM_point_7 : decode cXM_point 7 = .ok (.iconst 1, 1) := by decide +kernel
theorem dXM_point_8 : decode cXM_point 8 = .ok (.goto 4, 3) := by decide +kernel
theorem dXM_point_11 : decode cXM_point 11 = .ok (.iconst 0, 1) := by decide +kernel
theorem dXM_point_12 : decode cXM_point 12 = .ok (.ireturn, 1) := by decide +kernel
theorem dXM_wins_0 : decode cXM_wins 0 = .ok (.aload_n 0, 1) := by decide +kernel
theorem dXM_wins_1 : decode cXM_wins 1 = .ok (.iload_n 1, 1) := by decide +kernel
theorem dXM_wins_2 : decode cXM_wins 2 = .ok (.iconst 4, 1) := by decide +kernel
theorem dXM_wins_3 : decode cXM_wins 3 = .ok (.iadd, 1) := by decide +kernel
theorem dXM_wins_4 : decode cXM_wins 4 = .ok (.iaload, 1) := by decide +kernel
theorem dXM_wins_5 : decode cXM_wins 5 = .ok (.aload_n 2, 1) := by decide +kernel
theorem dXM_wins_6 : decode cXM_wins 6 = .ok (.iload_n 3, 1) := by decide +kernel
theorem dXM_wins_7 : decode cXM_wins 7 = .ok (.iconst 4, 1) := by decide +kernel
theorem dXM_wins_8 : decode cXM_wins 8 = .ok (.iadd, 1) := by decide +kernel
theorem dXM_wins_9 : decode cXM_wins 9 = .ok (.iaload, 1) := by decide +kernel
theorem dXM_wins_10 : decode cXM_wins 10 = .ok (.if_icmp .eq 22, 3) := by decide +kernel
theorem dXM_wins_13 : decode cXM_wins 13 = .ok (.aload_n 0, 1) := by decide +kernel
theorem dXM_wins_14 : decode cXM_wins 14 = .ok (.iload_n 1, 1) := by decide +kernel
theorem dXM_wins_15 : decode cXM_wins 15 = .ok (.iconst 4, 1) := by decide +kernel
theorem dXM_wins_16 : decode cXM_wins 16 = .ok (.iadd, 1) := by decide +kernel
theorem dXM_wins_17 : decode cXM_wins 17 = .ok (.iaload, 1) := by decide +kernel
theorem dXM_wins_18 : decode cXM_wins 18 = .ok (.aload_n 2, 1) := by decide +kernel
theorem dXM_wins_19 : decode cXM_wins 19 = .ok (.iload_n 3, 1) := by decide +kernel
theorem dXM_wins_20 : decode cXM_wins 20 = .ok (.iconst 4, 1) := by decide +kernel
theorem dXM_wins_21 : decode cXM_wins 21 = .ok (.iadd, 1) := by decide +kernel
theorem dXM_wins_22 : decode cXM_wins 22 = .ok (.iaload, 1) := by decide +kernel
theorem dXM_wins_23 : decode cXM_wins 23 = .ok (.if_icmp .le 7, 3) := by decide +kernel
theorem dXM_wins_26 : decode cXM_wins 26 = .ok (.iconst 1, 1) := by decide +kernel
theorem dXM_wins_27 : decode cXM_wins 27 = .ok (.goto 4, 3) := by decide +kernel
theorem dXM_wins_30 : decode cXM_wins 30 = .ok (.iconst 0, 1) := by decide +kernel
theorem dXM_wins_31 : decode cXM_wins 31 = .ok (.ireturn, 1) := by decide +kernel
theorem dXM_wins_32 : decode cXM_wins 32 = .ok (.aload_n 0, 1) := by decide +kernel
theorem dXM_wins_33 : decode cXM_wins 33 = .ok (.iload_n 1, 1) := by decide +kernel
theorem dXM_wins_34 : decode cXM_wins 34 = .ok (.iaload, 1) := by decide +kernel
theorem dXM_wins_35 : decode cXM_wins 35 = .ok (.aload_n 2, 1) := by decide +kernel
theorem dXM_wins_36 : decode cXM_wins 36 = .ok (.iload_n 3, 1) := by decide +kernel
theorem dXM_wins_37 : decode cXM_wins 37 = .ok (.iaload, 1) := by decide +kernel
theorem dXM_wins_38 : decode cXM_wins 38 = .ok (.if_icmp .eq 16, 3) := by decide +kernel
theorem dXM_wins_41 : decode cXM_wins 41 = .ok (.aload_n 0, 1) := by decide +kernel
theorem dXM_wins_42 : decode cXM_wins 42 = .ok (.iload_n 1, 1) := by decide +kernel
theorem dXM_wins_43 : decode cXM_wins 43 = .ok (.iaload, 1) := by decide +kernel
theorem dXM_wins_44 : decode cXM_wins 44 = .ok (.iconst 1, 1) := by decide +kernel
theorem dXM_wins_45 : decode cXM_wins 45 = .ok (.if_icmp .ne 7, 3) := by decide +kernel
theorem dXM_wins_48 : decode cXM_wins 48 = .ok (.iconst 1, 1) := by decide +kernel
theorem dXM_wins_49 : decode cXM_wins 49 = .ok (.goto 4, 3) := by decide +kernel
theorem dXM_wins_52 : decode cXM_wins 52 = .ok (.iconst 0, 1) := by decide +kernel
theorem dXM_wins_53 : decode cXM_wins 53 = .ok (.ireturn, 1) := by decide +kernel
theorem dXM_wins_54 : decode cXM_wins 54 = .ok (.aload_n 0, 1) := by decide +kernel
theorem dXM_wins_55 : decode cXM_wins 55 = .ok (.iload_n 1, 1) := by decide +kernel
theorem dXM_wins_56 : decode cXM_wins 56 = .ok (.iaload, 1) := by decide +kernel
theorem dXM_wins_57 : decode cXM_wins 57 = .ok (.ifCond .ne 35, 3) := by decide +kernel
theorem dXM_wins_60 : decode cXM_wins 60 = .ok (.aload_n 0, 1) := by decide +kernel
theorem dXM_wins_61 : decode cXM_wins 61 = .ok (.iload_n 1, 1) := by decide +kernel
theorem dXM_wins_62 : decode cXM_wins 62 = .ok (.iconst 5, 1) := by decide +kernel
theorem dXM_wins_63 : decode cXM_wins 63 = .ok (.iadd, 1) := by decide +kernel
theorem dXM_wins_64 : decode cXM_wins 64 = .ok (.iaload, 1) := by decide +kernel
theorem dXM_wins_65 : decode cXM_wins 65 = .ok (.aload_n 2, 1) := by decide +kernel
theorem dXM_wins_66 : decode cXM_wins 66 = .ok (.iload_n 3, 1) := by decide +kernel
theorem dXM_wins_67 : decode cXM_wins 67 = .ok (.iconst 5, 1) := by decide +kernel
theorem dXM_wins_68 : decode cXM_wins 68 = .ok (.iadd, 1) := by decide +kernel
theorem dXM_wins_69 : decode cXM_wins 69 = .ok (.iaload, 1) := by decide +kernel
theorem dXM_wins_70 : decode cXM_wins 70 = .ok (.if_icmp .eq 22, 3) := by decide +kernel
theorem dXM_wins_73 : decode cXM_wins 73 = .ok (.aload_n 0, 1) := by decide +kernel
theorem dXM_wins_74 : decode cXM_wins 74 = .ok (.iload_n 1, 1) := by decide +kernel
theorem dXM_wins_75 : decode cXM_wins 75 = .ok (.iconst 5, 1) := by decide +kernel
theorem dXM_wins_76 : decode cXM_wins 76 = .ok (.iadd, 1) := by decide +kernel
theorem dXM_wins_77 : decode cXM_wins 77 = .ok (.iaload, 1) := by decide +kernel
theorem dXM_wins_78 : decode cXM_wins 78 = .ok (.aload_n 2, 1) := by decide +kernel
theorem dXM_wins_79 : decode cXM_wins 79 = .ok (.iload_n 3, 1) := by decide +kernel
theorem dXM_wins_80 : decode cXM_wins 80 = .ok (.iconst 5, 1) := by decide +kernel
theorem dXM_wins_81 : decode cXM_wins 81 = .ok (.iadd, 1) := by decide +kernel
theorem dXM_wins_82 : decode cXM_wins 82 = .ok (.iaload, 1) := by decide +kernel
theorem dXM_wins_83 : decode cXM_wins 83 = .ok (.if_icmp .le 7, 3) := by decide +kernel
theorem dXM_wins_86 : decode cXM_wins 86 = .ok (.iconst 1, 1) := by decide +kernel
theorem dXM_wins_87 : decode cXM_wins 87 = .ok (.goto 4, 3) := by decide +kernel
theorem dXM_wins_90 : decode cXM_wins 90 = .ok (.iconst 0, 1) := by decide +kernel
theorem dXM_wins_91 : decode cXM_wins 91 = .ok (.ireturn, 1) := by decide +kernel
theorem dXM_wins_92 : decode cXM_wins 92 = .ok (.aload_n 0, 1) := by decide +kernel
theorem dXM_wins_93 : decode cXM_wins 93 = .ok (.iload_n 1, 1) := by decide +kernel
theorem dXM_wins_94 : decode cXM_wins 94 = .ok (.iaload, 1) := by decide +kernel
theorem dXM_wins_95 : decode cXM_wins 95 = .ok (.ifCond .ne 45, 3) := by decide +kernel
theorem dXM_wins_98 : decode cXM_wins 98 = .ok (.aload_n 0, 1) := by decide +kernel
theorem dXM_wins_99 : decode cXM_wins 99 = .ok (.iload_n 1, 1) := by decide +kernel
theorem dXM_wins_100 : decode cXM_wins 100 = .ok (.bipush 6, 2) := by decide +kernel
theorem dXM_wins_102 : decode cXM_wins 102 = .ok (.iadd, 1) := by decide +kernel
theorem dXM_wins_103 : decode cXM_wins 103 = .ok (.iaload, 1) := by decide +kernel
theorem dXM_wins_104 : decode cXM_wins 104 = .ok (.ifCond .lt 12, 3) := by decide +kernel
theorem dXM_wins_107 : decode cXM_wins 107 = .ok (.aload_n 2, 1) := by decide +kernel
theorem dXM_wins_108 : decode cXM_wins 108 = .ok (.iload_n 3, 1) := by decide +kernel
theorem dXM_wins_109 : decode cXM_wins 109 = .ok (.bipush 6, 2) := by decide +kernel
theorem dXM_wins_111 : decode cXM_wins 111 = .ok (.iadd, 1) := by decide +kernel
theorem dXM_wins_112 : decode cXM_wins 112 = .ok (.iaload, 1) := by decide +kernel
theorem dXM_wins_113 : decode cXM_wins 113 = .ok (.ifCond .ge 27, 3) := by decide +kernel
theorem dXM_wins_116 : decode cXM_wins 116 = .ok (.aload_n 0, 1) := by decide +kernel
theorem dXM_wins_117 : decode cXM_wins 117 = .ok (.iload_n 1, 1) := by decide +kernel
theorem dXM_wins_118 : decode cXM_wins 118 = .ok (.bipush 6, 2) := by decide +kernel
theorem dXM_wins_120 : decode cXM_wins 120 = .ok (.iadd, 1) := by decide +kernel
theorem dXM_wins_121 : decode cXM_wins 121 = .ok (.iaload, 1) := by decide +kernel
theorem dXM_wins_122 : decode cXM_wins 122 = .ok (.ifCond .ge 16, 3) := by decide +kernel
theorem dXM_wins_125 : decode cXM_wins 125 = .ok (.aload_n 2, 1) := by decide +kernel
theorem dXM_wins_126 : decode cXM_wins 126 = .ok (.iload_n 3, 1) := by decide +kernel
theorem dXM_wins_127 : decode cXM_wins 127 = .ok (.bipush 6, 2) := by decide +kernel
theorem dXM_wins_129 : decode cXM_wins 129 = .ok (.iadd, 1) := by decide +kernel
theorem dXM_wins_130 : decode cXM_wins 130 = .ok (.iaload, 1) := by decide +kernel
theorem dXM_wins_131 : decode cXM_wins 131 = .ok (.ifCond .lt 7, 3) := by decide +kernel
theorem dXM_wins_134 : decode cXM_wins 134 = .ok (.iconst 1, 1) := by decide +kernel
theorem dXM_wins_135 : decode cXM_wins 135 = .ok (.goto 4, 3) := by decide +kernel
theorem dXM_wins_138 : decode cXM_wins 138 = .ok (.iconst 0, 1) := by decide +kernel
theorem dXM_wins_139 : decode cXM_wins 139 = .ok (.ireturn, 1) := by decide +kernel
theorem dXM_wins_140 : decode cXM_wins 140 = .ok (.aload_n 0, 1) := by decide +kernel
theorem dXM_wins_141 : decode cXM_wins 141 = .ok (.iload_n 1, 1) := by decide +kernel
theorem dXM_wins_142 : decode cXM_wins 142 = .ok (.bipush 6, 2) := by decide +kernel
theorem dXM_wins_144 : decode cXM_wins 144 = .ok (.iadd, 1) := by decide +kernel
theorem dXM_wins_145 : decode cXM_wins 145 = .ok (.iaload, 1) := by decide +kernel
theorem dXM_wins_146 : decode cXM_wins 146 = .ok (.aload_n 2, 1) := by decide +kernel
theorem dXM_wins_147 : decode cXM_wins 147 = .ok (.iload_n 3, 1) := by decide +kernel
theorem dXM_wins_148 : decode cXM_wins 148 = .ok (.bipush 6, 2) := by decide +kernel
theorem dXM_wins_150 : decode cXM_wins 150 = .ok (.iadd, 1) := by decide +kernel
theorem dXM_wins_151 : decode cXM_wins 151 = .ok (.iaload, 1) := by decide +kernel
theorem dXM_wins_152 : decode cXM_wins 152 = .ok (.if_icmp .le 7, 3) := by decide +kernel
theorem dXM_wins_155 : decode cXM_wins 155 = .ok (.iconst 1, 1) := by decide +kernel
theorem dXM_wins_156 : decode cXM_wins 156 = .ok (.goto 4, 3) := by decide +kernel
theorem dXM_wins_159 : decode cXM_wins 159 = .ok (.iconst 0, 1) := by decide +kernel
theorem dXM_wins_160 : decode cXM_wins 160 = .ok (.ireturn, 1) := by decide +kernel
theorem dXM_copy_0 : decode cXM_copy 0 = .ok (.iconst 0, 1) := by decide +kernel
theorem dXM_copy_1 : decode cXM_copy 1 = .ok (.istore 4, 2) := by decide +kernel
theorem dXM_copy_3 : decode cXM_copy 3 = .ok (.iload 4, 2) := by decide +kernel
theorem dXM_copy_5 : decode cXM_copy 5 = .ok (.bipush 7, 2) := by decide +kernel
theorem dXM_copy_7 : decode cXM_copy 7 = .ok (.if_icmp .ge 21, 3) := by decide +kernel
theorem dXM_copy_10 : decode cXM_copy 10 = .ok (.aload_n 2, 1) := by decide +kernel
theorem dXM_copy_11 : decode cXM_copy 11 = .ok (.iload_n 3, 1) := by decide +kernel
theorem dXM_copy_12 : decode cXM_copy 12 = .ok (.iload 4, 2) := by decide +kernel
theorem dXM_copy_14 : decode cXM_copy 14 = .ok (.iadd, 1) := by decide +kernel
theorem dXM_copy_15 : decode cXM_copy 15 = .ok (.aload_n 0, 1) := by decide +kernel
theorem dXM_copy_16 : decode cXM_copy 16 = .ok (.iload_n 1, 1) := by decide +kernel
theorem dXM_copy_17 : decode cXM_copy 17 = .ok (.iload 4, 2) := by decide +kernel
theorem dXM_copy_19 : decode cXM_copy 19 = .ok (.iadd, 1) := by decide +kernel
theorem dXM_copy_20 : decode cXM_copy 20 = .ok (.iaload, 1) := by decide +kernel
theorem dXM_copy_21 : decode cXM_copy 21 = .ok (.iastore, 1) := by decide +kernel
theorem dXM_copy_22 : decode cXM_copy 22 = .ok (.iinc 4 1, 3) := by decide +kernel
theorem dXM_copy_25 : decode cXM_copy 25 = .ok (.goto (-22), 3) := by decide +kernel
theorem dXM_copy_28 : decode cXM_copy 28 = .ok (.return_, 1) := by decide +kernel
theorem dXM_flushAll_0 : decode cXM_flushAll 0 = .ok (.aload_n 0, 1) := by decide +kernel
theorem dXM_flushAll_1 : decode cXM_flushAll 1 = .ok (.getfield 42, 3) := by decide +kernel
theorem dXM_flushAll_4 : decode cXM_flushAll 4 = .ok (.istore_n 1, 1) := by decide +kernel
theorem dXM_flushAll_5 : decode cXM_flushAll 5 = .ok (.iload_n 1, 1) := by decide +kernel
theorem dXM_flushAll_6 : decode cXM_flushAll 6 = .ok (.ifCond .le 119, 3) := by decide +kernel
theorem dXM_flushAll_9 : decode cXM_flushAll 9 = .ok (.aload_n 0, 1) := by decide +kernel
theorem dXM_flushAll_10 : decode cXM_flushAll 10 = .ok (.dup, 1) := by decide +kernel
theorem dXM_flushAll_11 : decode cXM_flushAll 11 = .ok (.getfield 82, 3) := by decide +kernel
theorem dXM_flushAll_14 : decode cXM_flushAll 14 = .ok (.iconst 1, 1) := by decide +kernel
theorem dXM_flushAll_15 : decode cXM_flushAll 15 = .ok (.iadd, 1) := by decide +kernel
theorem dXM_flushAll_16 : decode cXM_flushAll 16 = .ok (.putfield 82, 3) := by decide +kernel
theorem dXM_flushAll_19 : decode cXM_flushAll 19 = .ok (.iconst 0, 1) := by decide +kernel
theorem dXM_flushAll_20 : decode cXM_flushAll 20 = .ok (.istore_n 2, 1) := by decide +kernel
theorem dXM_flushAll_21 : decode cXM_flushAll 21 = .ok (.iload_n 2, 1) := by decide +kernel
theorem dXM_flushAll_22 : decode cXM_flushAll 22 = .ok (.iload_n 1, 1) := by decide +kernel
theorem dXM_flushAll_23 : decode cXM_flushAll 23 = .ok (.if_icmp .ge 54, 3) := by decide +kernel
theorem dXM_flushAll_26 : decode cXM_flushAll 26 = .ok (.aload_n 0, 1) := by decide +kernel
theorem dXM_flushAll_27 : decode cXM_flushAll 27 = .ok (.getfield 7, 3) := by decide +kernel
theorem dXM_flushAll_30 : decode cXM_flushAll 30 = .ok (.bipush 7, 2) := by decide +kernel
theorem dXM_flushAll_32 : decode cXM_flushAll 32 = .ok (.iload_n 2, 1) := by decide +kernel
theorem dXM_flushAll_33 : decode cXM_flushAll 33 = .ok (.imul, 1) := by decide +kernel
theorem dXM_flushAll_34 : decode cXM_flushAll 34 = .ok (.aload_n 0, 1) := by decide +kernel
theorem dXM_flushAll_35 : decode cXM_flushAll 35 = .ok (.getfield 16, 3) := by decide +kernel
theorem dXM_flushAll_38 : decode cXM_flushAll 38 = .ok (.bipush 7, 2) := by decide +kernel
theorem dXM_flushAll_40 : decode cXM_flushAll 40 = .ok (.aload_n 0, 1) := by decide +kernel
theorem dXM_flushAll_41 : decode cXM_flushAll 41 = .ok (.getfield 85, 3) := by decide +kernel
theorem dXM_flushAll_44 : decode cXM_flushAll 44 = .ok (.imul, 1) := by decide +kernel
theorem dXM_flushAll_45 : decode cXM_flushAll 45 = .ok (.invokestatic 52, 3) := by decide +kernel
theorem dXM_flushAll_48 : decode cXM_flushAll 48 = .ok (.aload_n 0, 1) := by decide +kernel
theorem dXM_flushAll_49 : decode cXM_flushAll 49 = .ok (.getfield 19, 3) := by decide +kernel
theorem dXM_flushAll_52 : decode cXM_flushAll 52 = .ok (.aload_n 0, 1) := by decide +kernel
theorem dXM_flushAll_53 : decode cXM_flushAll 53 = .ok (.getfield 85, 3) := by decide +kernel
theorem dXM_flushAll_56 : decode cXM_flushAll 56 = .ok (.aload_n 0, 1) := by decide +kernel
theorem dXM_flushAll_57 : decode cXM_flushAll 57 = .ok (.getfield 82, 3) := by decide +kernel
theorem dXM_flushAll_60 : decode cXM_flushAll 60 = .ok (.iastore, 1) := by decide +kernel
theorem dXM_flushAll_61 : decode cXM_flushAll 61 = .ok (.aload_n 0, 1) := by decide +kernel
theorem dXM_flushAll_62 : decode cXM_flushAll 62 = .ok (.dup, 1) := by decide +kernel
theorem dXM_flushAll_63 : decode cXM_flushAll 63 = .ok (.getfield 85, 3) := by decide +kernel
theorem dXM_flushAll_66 : decode cXM_flushAll 66 = .ok (.iconst 1, 1) := by decide +kernel
theorem dXM_flushAll_67 : decode cXM_flushAll 67 = .ok (.iadd, 1) := by decide +kernel
theorem dXM_flushAll_68 : decode cXM_flushAll 68 = .ok (.putfield 85, 3) := by decide +kernel
theorem dXM_flushAll_71 : decode cXM_flushAll 71 = .ok (.iinc 2 1, 3) := by decide +kernel
theorem dXM_flushAll_74 : decode cXM_flushAll 74 = .ok (.goto (-53), 3) := by decide +kernel
theorem dXM_flushAll_77 : decode cXM_flushAll 77 = .ok (.aload_n 0, 1) := by decide +kernel
theorem dXM_flushAll_78 : decode cXM_flushAll 78 = .ok (.getfield 22, 3) := by decide +kernel
theorem dXM_flushAll_81 : decode cXM_flushAll 81 = .ok (.aload_n 0, 1) := by decide +kernel
theorem dXM_flushAll_82 : decode cXM_flushAll 82 = .ok (.getfield 88, 3) := by decide +kernel
theorem dXM_flushAll_85 : decode cXM_flushAll 85 = .ok (.aload_n 0, 1) := by decide +kernel
theorem dXM_flushAll_86 : decode cXM_flushAll 86 = .ok (.getfield 82, 3) := by decide +kernel
theorem dXM_flushAll_89 : decode cXM_flushAll 89 = .ok (.iastore, 1) := by decide +kernel
theorem dXM_flushAll_90 : decode cXM_flushAll 90 = .ok (.aload_n 0, 1) := by decide +kernel
theorem dXM_flushAll_91 : decode cXM_flushAll 91 = .ok (.getfield 25, 3) := by decide +kernel
theorem dXM_flushAll_94 : decode cXM_flushAll 94 = .ok (.aload_n 0, 1) := by decide +kernel
theorem dXM_flushAll_95 : decode cXM_flushAll 95 = .ok (.getfield 88, 3) := by decide +kernel
theorem dXM_flushAll_98 : decode cXM_flushAll 98 = .ok (.iconst 0, 1) := by decide +kernel
theorem dXM_flushAll_99 : decode cXM_flushAll 99 = .ok (.iastore, 1) := by decide +kernel
theorem dXM_flushAll_100 : decode cXM_flushAll 100 = .ok (.aload_n 0, 1) := by decide +kernel
theorem dXM_flushAll_101 : decode cXM_flushAll 101 = .ok (.dup, 1) := by decide +kernel
theorem dXM_flushAll_102 : decode cXM_flushAll 102 = .ok (.getfield 88, 3) := by decide +kernel
theorem dXM_flushAll_105 : decode cXM_flushAll 105 = .ok (.iconst 1, 1) := by decide +kernel
theorem dXM_flushAll_106 : decode cXM_flushAll 106 = .ok (.iadd, 1) := by decide +kernel
theorem dXM_flushAll_107 : decode cXM_flushAll 107 = .ok (.putfield 88, 3) := by decide +kernel
theorem dXM_flushAll_110 : decode cXM_flushAll 110 = .ok (.aload_n 0, 1) := by decide +kernel
theorem dXM_flushAll_111 : decode cXM_flushAll 111 = .ok (.iconst 0, 1) := by decide +kernel
theorem dXM_flushAll_112 : decode cXM_flushAll 112 = .ok (.putfield 42, 3) := by decide +kernel
theorem dXM_flushAll_115 : decode cXM_flushAll 115 = .ok (.aload_n 0, 1) := by decide +kernel
theorem dXM_flushAll_116 : decode cXM_flushAll 116 = .ok (.iconst 0, 1) := by decide +kernel
theorem dXM_flushAll_117 : decode cXM_flushAll 117 = .ok (.putfield 56, 3) := by decide +kernel
theorem dXM_flushAll_120 : decode cXM_flushAll 120 = .ok (.aload_n 0, 1) := by decide +kernel
theorem dXM_flushAll_121 : decode cXM_flushAll 121 = .ok (.iconst 0, 1) := by decide +kernel
theorem dXM_flushAll_122 : decode cXM_flushAll 122 = .ok (.putfield 91, 3) := by decide +kernel
theorem dXM_flushAll_125 : decode cXM_flushAll 125 = .ok (.aload_n 0, 1) := by decide +kernel
theorem dXM_flushAll_126 : decode cXM_flushAll 126 = .ok (.getfield 88, 3) := by decide +kernel
theorem dXM_flushAll_129 : decode cXM_flushAll 129 = .ok (.iconst 3, 1) := by decide +kernel
theorem dXM_flushAll_130 : decode cXM_flushAll 130 = .ok (.if_icmp .lt 74, 3) := by decide +kernel
theorem dXM_flushAll_133 : decode cXM_flushAll 133 = .ok (.aload_n 0, 1) := by decide +kernel
theorem dXM_flushAll_134 : decode cXM_flushAll 134 = .ok (.getfield 25, 3) := by decide +kernel
theorem dXM_flushAll_137 : decode cXM_flushAll 137 = .ok (.aload_n 0, 1) := by decide +kernel
theorem dXM_flushAll_138 : decode cXM_flushAll 138 = .ok (.getfield 88, 3) := by decide +kernel
theorem dXM_flushAll_141 : decode cXM_flushAll 141 = .ok (.iconst 1, 1) := by decide +kernel
theorem dXM_flushAll_142 : decode cXM_flushAll 142 = .ok (.isub, 1) := by decide +kernel
theorem dXM_flushAll_143 : decode cXM_flushAll 143 = .ok (.iaload, 1) := by decide +kernel
theorem dXM_flushAll_144 : decode cXM_flushAll 144 = .ok (.aload_n 0, 1) := by decide +kernel
theorem dXM_flushAll_145 : decode cXM_flushAll 145 = .ok (.getfield 25, 3) := by decide +kernel
theorem dXM_flushAll_148 : decode cXM_flushAll 148 = .ok (.aload_n 0, 1) := by decide +kernel
theorem dXM_flushAll_149 : decode cXM_flushAll 149 = .ok (.getfield 88, 3) := by decide +kernel
theorem dXM_flushAll_152 : decode cXM_flushAll 152 = .ok (.iconst 2, 1) := by decide +kernel
theorem dXM_flushAll_153 : decode cXM_flushAll 153 = .ok (.isub, 1) := by decide +kernel
theorem dXM_flushAll_154 : decode cXM_flushAll 154 = .ok (.iaload, 1) := by decide +kernel
theorem dXM_flushAll_155 : decode cXM_flushAll 155 = .ok (.if_icmp .ne 49, 3) := by decide +kernel
theorem dXM_flushAll_158 : decode cXM_flushAll 158 = .ok (.aload_n 0, 1) := by decide +kernel
theorem dXM_flushAll_159 : decode cXM_flushAll 159 = .ok (.getfield 25, 3) := by decide +kernel
theorem dXM_flushAll_162 : decode cXM_flushAll 162 = .ok (.aload_n 0, 1) := by decide +kernel
theorem dXM_flushAll_163 : decode cXM_flushAll 163 = .ok (.getfield 88, 3) := by decide +kernel
theorem dXM_flushAll_166 : decode cXM_flushAll 166 = .ok (.iconst 2, 1) := by decide +kernel
theorem dXM_flushAll_167 : decode cXM_flushAll 167 = .ok (.isub, 1) := by decide +kernel
theorem dXM_flushAll_168 : decode cXM_flushAll 168 = .ok (.iaload, 1) := by decide +kernel
theorem dXM_flushAll_169 : decode cXM_flushAll 169 = .ok (.aload_n 0, 1) := by decide +kernel
theorem dXM_flushAll_170 : decode cXM_flushAll 170 = .ok (.getfield 25, 3) := by decide +kernel
theorem dXM_flushAll_173 : decode cXM_flushAll 173 = .ok (.aload_n 0, 1) := by decide +kernel
theorem dXM_flushAll_174 : decode cXM_flushAll 174 = .ok (.getfield 88, 3) := by decide +kernel
theorem dXM_flushAll_177 : decode cXM_flushAll 177 = .ok (.iconst 3, 1) := by decide +kernel
theorem dXM_flushAll_178 : decode cXM_flushAll 178 = .ok (.isub, 1) := by decide +kernel
theorem dXM_flushAll_179 : decode cXM_flushAll 179 = .ok (.iaload, 1) := by decide +kernel
theorem dXM_flushAll_180 : decode cXM_flushAll 180 = .ok (.if_icmp .ne 24, 3) := by decide +kernel
theorem dXM_flushAll_183 : decode cXM_flushAll 183 = .ok (.aload_n 0, 1) := by decide +kernel
theorem dXM_flushAll_184 : decode cXM_flushAll 184 = .ok (.iconst 3, 1) := by decide +kernel
theorem dXM_flushAll_185 : decode cXM_flushAll 185 = .ok (.aload_n 0, 1) := by decide +kernel
theorem dXM_flushAll_186 : decode cXM_flushAll 186 = .ok (.getfield 25, 3) := by decide +kernel
theorem dXM_flushAll_189 : decode cXM_flushAll 189 = .ok (.aload_n 0, 1) := by decide +kernel
theorem dXM_flushAll_190 : decode cXM_flushAll 190 = .ok (.getfield 88, 3) := by decide +kernel
theorem dXM_flushAll_193 : decode cXM_flushAll 193 = .ok (.iconst 1, 1) := by decide +kernel
theorem dXM_flushAll_194 : decode cXM_flushAll 194 = .ok (.isub, 1) := by decide +kernel
theorem dXM_flushAll_195 : decode cXM_flushAll 195 = .ok (.iaload, 1) := by decide +kernel
theorem dXM_flushAll_196 : decode cXM_flushAll 196 = .ok (.iconst 1, 1) := by decide +kernel
theorem dXM_flushAll_197 : decode cXM_flushAll 197 = .ok (.iadd, 1) := by decide +kernel
theorem dXM_flushAll_198 : decode cXM_flushAll 198 = .ok (.invokevirtual 94, 3) := by decide +kernel
theorem dXM_flushAll_201 : decode cXM_flushAll 201 = .ok (.goto (-76), 3) := by decide +kernel
theorem dXM_flushAll_204 : decode cXM_flushAll 204 = .ok (.iload_n 1, 1) := by decide +kernel
theorem dXM_flushAll_205 : decode cXM_flushAll 205 = .ok (.ireturn, 1) := by decide +kernel
theorem dXM_join_0 : decode cXM_join 0 = .ok (.iload_n 1, 1) := by decide +kernel
theorem dXM_join_1 : decode cXM_join 1 = .ok (.aload_n 0, 1) := by decide +kernel
theorem dXM_join_2 : decode cXM_join 2 = .ok (.getfield 88, 3) := by decide +kernel
theorem dXM_join_5 : decode cXM_join 5 = .ok (.if_icmp .ne 7, 3) := by decide +kernel
theorem dXM_join_8 : decode cXM_join 8 = .ok (.iconst 1, 1) := by decide +kernel
theorem dXM_join_9 : decode cXM_join 9 = .ok (.goto 4, 3) := by decide +kernel
theorem dXM_join_12 : decode cXM_join 12 = .ok (.iconst 0, 1) := by decide +kernel
theorem dXM_join_13 : decode cXM_join 13 = .ok (.istore_n 3, 1) := by decide +kernel
theorem dXM_join_14 : decode cXM_join 14 = .ok (.aload_n 0, 1) := by decide +kernel
theorem dXM_join_15 : decode cXM_join 15 = .ok (.dup, 1) := by decide +kernel
theorem dXM_join_16 : decode cXM_join 16 = .ok (.getfield 82, 3) := by decide +kernel
theorem dXM_join_19 : decode cXM_join 19 = .ok (.iconst 1, 1) := by decide +kernel
theorem dXM_join_20 : decode cXM_join 20 = .ok (.iadd, 1) := by decide +kernel
theorem dXM_join_21 : decode cXM_join 21 = .ok (.putfield 82, 3) := by decide +kernel
theorem dXM_join_24 : decode cXM_join 24 = .ok (.aload_n 0, 1) := by decide +kernel
theorem dXM_join_25 : decode cXM_join 25 = .ok (.getfield 88, 3) := by decide +kernel
theorem dXM_join_28 : decode cXM_join 28 = .ok (.iload_n 1, 1) := by decide +kernel
theorem dXM_join_29 : decode cXM_join 29 = .ok (.isub, 1) := by decide +kernel
theorem dXM_join_30 : decode cXM_join 30 = .ok (.istore 4, 2) := by decide +kernel
theorem dXM_join_32 : decode cXM_join 32 = .ok (.iload 4, 2) := by decide +kernel
theorem dXM_join_34 : decode cXM_join 34 = .ok (.aload_n 0, 1) := by decide +kernel
theorem dXM_join_35 : decode cXM_join 35 = .ok (.getfield 88, 3) := by decide +kernel
theorem dXM_join_38 : decode cXM_join 38 = .ok (.if_icmp .ge 65, 3) := by decide +kernel
theorem dXM_join_41 : decode cXM_join 41 = .ok (.iconst 0, 1) := by decide +kernel
theorem dXM_join_42 : decode cXM_join 42 = .ok (.istore 5, 2) := by decide +kernel
theorem dXM_join_44 : decode cXM_join 44 = .ok (.iload 5, 2) := by decide +kernel
theorem dXM_join_46 : decode cXM_join 46 = .ok (.aload_n 0, 1) := by decide +kernel
theorem dXM_join_47 : decode cXM_join 47 = .ok (.getfield 85, 3) := by decide +kernel
theorem dXM_join_50 : decode cXM_join 50 = .ok (.if_icmp .ge 47, 3) := by decide +kernel
theorem dXM_join_53 : decode cXM_join 53 = .ok (.aload_n 0, 1) := by decide +kernel
theorem dXM_join_54 : decode cXM_join 54 = .ok (.getfield 19, 3) := by decide +kernel
theorem dXM_join_57 : decode cXM_join 57 = .ok (.iload 5, 2) := by decide +kernel
theorem dXM_join_59 : decode cXM_join 59 = .ok (.aload_n 0, 1) := by decide +kernel
theorem dXM_join_60 : decode cXM_join 60 = .ok (.getfield 19, 3) := by decide +kernel
theorem dXM_join_63 : decode cXM_join 63 = .ok (.iload 5, 2) := by decide +kernel
theorem dXM_join_65 : decode cXM_join 65 = .ok (.iaload, 1) := by decide +kernel
theorem dXM_join_66 : decode cXM_join 66 = .ok (.aload_n 0, 1) := by decide +kernel
theorem dXM_join_67 : decode cXM_join 67 = .ok (.getfield 22, 3) := by decide +kernel
theorem dXM_join_70 : decode cXM_join 70 = .ok (.iload 4, 2) := by decide +kernel
theorem dXM_join_72 : decode cXM_join 72 = .ok (.iaload, 1) := by decide +kernel
theorem dXM_join_73 : decode cXM_join 73 = .ok (.if_icmp .ne 10, 3) := by decide +kernel
theorem dXM_join_76 : decode cXM_join 76 = .ok (.aload_n 0, 1) := by decide +kernel
theorem dXM_join_77 : decode cXM_join 77 = .ok (.getfield 82, 3) := by decide +kernel
theorem dXM_join_80 : decode cXM_join 80 = .ok (.goto 10, 3) := by decide +kernel
theorem dXM_join_83 : decode cXM_join 83 = .ok (.aload_n 0, 1) := by decide +kernel
theorem dXM_join_84 : decode cXM_join 84 = .ok (.getfield 19, 3) := by decide +kernel
theorem dXM_join_87 : decode cXM_join 87 = .ok (.iload 5, 2) := by decide +kernel
theorem dXM_join_89 : decode cXM_join 89 = .ok (.iaload, 1) := by decide +kernel
theorem dXM_join_90 : decode cXM_join 90 = .ok (.iastore, 1) := by decide +kernel
theorem dXM_join_91 : decode cXM_join 91 = .ok (.iinc 5 1, 3) := by decide +kernel
theorem dXM_join_94 : decode cXM_join 94 = .ok (.goto (-50), 3) := by decide +kernel
theorem dXM_join_97 : decode cXM_join 97 = .ok (.iinc 4 1, 3) := by decide +kernel
theorem dXM_join_100 : decode cXM_join 100 = .ok (.goto (-68), 3) := by decide +kernel
theorem dXM_join_103 : decode cXM_join 103 = .ok (.aload_n 0, 1) := by decide +kernel
theorem dXM_join_104 : decode cXM_join 104 = .ok (.aload_n 0, 1) := by decide +kernel
theorem dXM_join_105 : decode cXM_join 105 = .ok (.getfield 88, 3) := by decide +kernel
theorem dXM_join_108 : decode cXM_join 108 = .ok (.iload_n 1, 1) := by decide +kernel
theorem dXM_join_109 : decode cXM_join 109 = .ok (.isub, 1) := by decide +kernel
theorem dXM_join_110 : decode cXM_join 110 = .ok (.iconst 1, 1) := by decide +kernel
theorem dXM_join_111 : decode cXM_join 111 = .ok (.iadd, 1) := by decide +kernel
theorem dXM_join_112 : decode cXM_join 112 = .ok (.putfield 88, 3) := by decide +kernel
theorem dXM_join_115 : decode cXM_join 115 = .ok (.aload_n 0, 1) := by decide +kernel
theorem dXM_join_116 : decode cXM_join 116 = .ok (.getfield 22, 3) := by decide +kernel
theorem dXM_join_119 : decode cXM_join 119 = .ok (.aload_n 0, 1) := by decide +kernel
theorem dXM_join_120 : decode cXM_join 120 = .ok (.getfield 88, 3) := by decide +kernel
theorem dXM_join_123 : decode cXM_join 123 = .ok (.iconst 1, 1) := by decide +kernel
theorem dXM_join_124 : decode cXM_join 124 = .ok (.isub, 1) := by decide +kernel
theorem dXM_join_125 : decode cXM_join 125 = .ok (.aload_n 0, 1) := by decide +kernel
theorem dXM_join_126 : decode cXM_join 126 = .ok (.getfield 82, 3) := by decide +kernel
theorem dXM_join_129 : decode cXM_join 129 = .ok (.iastore, 1) := by decide +kernel
theorem dXM_join_130 : decode cXM_join 130 = .ok (.aload_n 0, 1) := by decide +kernel
theorem dXM_join_131 : decode cXM_join 131 = .ok (.getfield 25, 3) := by decide +kernel
theorem dXM_join_134 : decode cXM_join 134 = .ok (.aload_n 0, 1) := by decide +kernel
theorem dXM_join_135 : decode cXM_join 135 = .ok (.getfield 88, 3) := by decide +kernel
theorem dXM_join_138 : decode cXM_join 138 = .ok (.iconst 1, 1) := by decide +kernel
theorem dXM_join_139 : decode cXM_join 139 = .ok (.isub, 1) := by decide +kernel
theorem dXM_join_140 : decode cXM_join 140 = .ok (.iload_n 2, 1) := by decide +kernel
theorem dXM_join_141 : decode cXM_join 141 = .ok (.iastore, 1) := by decide +kernel
theorem dXM_join_142 : decode cXM_join 142 = .ok (.iconst 0, 1) := by decide +kernel
theorem dXM_join_143 : decode cXM_join 143 = .ok (.istore 4, 2) := by decide +kernel
theorem dXM_join_145 : decode cXM_join 145 = .ok (.iload 4, 2) := by decide +kernel
theorem dXM_join_147 : decode cXM_join 147 = .ok (.aload_n 0, 1) := by decide +kernel
theorem dXM_join_148 : decode cXM_join 148 = .ok (.getfield 85, 3) := by decide +kernel
theorem dXM_join_151 : decode cXM_join 151 = .ok (.if_icmp .ge 180, 3) := by decide +kernel
theorem dXM_join_154 : decode cXM_join 154 = .ok (.iconst 0, 1) := by decide +kernel
theorem dXM_join_155 : decode cXM_join 155 = .ok (.istore 5, 2) := by decide +kernel
theorem dXM_join_157 : decode cXM_join 157 = .ok (.iload 5, 2) := by decide +kernel
theorem dXM_join_159 : decode cXM_join 159 = .ok (.aload_n 0, 1) := by decide +kernel
theorem dXM_join_160 : decode cXM_join 160 = .ok (.getfield 85, 3) := by decide +kernel
theorem dXM_join_163 : decode cXM_join 163 = .ok (.if_icmp .ge 162, 3) := by decide +kernel
theorem dXM_join_166 : decode cXM_join 166 = .ok (.aload_n 0, 1) := by decide +kernel
theorem dXM_join_167 : decode cXM_join 167 = .ok (.getfield 19, 3) := by decide +kernel
theorem dXM_join_170 : decode cXM_join 170 = .ok (.iload 4, 2) := by decide +kernel
theorem dXM_join_172 : decode cXM_join 172 = .ok (.iaload, 1) := by decide +kernel
theorem dXM_join_173 : decode cXM_join 173 = .ok (.aload_n 0, 1) := by decide +kernel
theorem dXM_join_174 : decode cXM_join 174 = .ok (.getfield 82, 3) := by decide +kernel
theorem dXM_join_177 : decode cXM_join 177 = .ok (.if_icmp .ne 148, 3) := by decide +kernel
theorem dXM_join_180 : decode cXM_join 180 = .ok (.iload 5, 2) := by decide +kernel
theorem dXM_join_182 : decode cXM_join 182 = .ok (.iload 4, 2) := by decide +kernel
theorem dXM_join_184 : decode cXM_join 184 = .ok (.if_icmp .eq 45, 3) := by decide +kernel
theorem dXM_join_187 : decode cXM_join 187 = .ok (.aload_n 0, 1) := by decide +kernel
theorem dXM_join_188 : decode cXM_join 188 = .ok (.getfield 19, 3) := by decide +kernel
theorem dXM_join_191 : decode cXM_join 191 = .ok (.iload 5, 2) := by decide +kernel
theorem dXM_join_193 : decode cXM_join 193 = .ok (.iaload, 1) := by decide +kernel
theorem dXM_join_194 : decode cXM_join 194 = .ok (.aload_n 0, 1) := by decide +kernel
theorem dXM_join_195 : decode cXM_join 195 = .ok (.getfield 82, 3) := by decide +kernel
theorem dXM_join_198 : decode cXM_join 198 = .ok (.if_icmp .ne 31, 3) := by decide +kernel
theorem dXM_join_201 : decode cXM_join 201 = .ok (.aload_n 0, 1) := by decide +kernel
theorem dXM_join_202 : decode cXM_join 202 = .ok (.getfield 16, 3) := by decide +kernel
theorem dXM_join_205 : decode cXM_join 205 = .ok (.bipush 7, 2) := by decide +kernel
theorem dXM_join_207 : decode cXM_join 207 = .ok (.iload 4, 2) := by decide +kernel
theorem dXM_join_209 : decode cXM_join 209 = .ok (.imul, 1) := by decide +kernel
theorem dXM_join_210 : decode cXM_join 210 = .ok (.aload_n 0, 1) := by decide +kernel
theorem dXM_join_211 : decode cXM_join 211 = .ok (.getfield 16, 3) := by decide +kernel
theorem dXM_join_214 : decode cXM_join 214 = .ok (.bipush 7, 2) := by decide +kernel
theorem dXM_join_216 : decode cXM_join 216 = .ok (.iload 5, 2) := by decide +kernel
theorem dXM_join_218 : decode cXM_join 218 = .ok (.imul, 1) := by decide +kernel
theorem dXM_join_219 : decode cXM_join 219 = .ok (.invokestatic 45, 3) := by decide +kernel
theorem dXM_join_222 : decode cXM_join 222 = .ok (.ifCond .eq 7, 3) := by decide +kernel
theorem dXM_join_225 : decode cXM_join 225 = .ok (.iconst 1, 1) := by decide +kernel
theorem dXM_join_226 : decode cXM_join 226 = .ok (.goto 4, 3) := by decide +kernel
theorem dXM_join_229 : decode cXM_join 229 = .ok (.iconst 0, 1) := by decide +kernel
theorem dXM_join_230 : decode cXM_join 230 = .ok (.istore 6, 2) := by decide +kernel
theorem dXM_join_232 : decode cXM_join 232 = .ok (.iload 6, 2) := by decide +kernel
theorem dXM_join_234 : decode cXM_join 234 = .ok (.ifCond .eq 62, 3) := by decide +kernel
theorem dXM_join_237 : decode cXM_join 237 = .ok (.aload_n 0, 1) := by decide +kernel
theorem dXM_join_238 : decode cXM_join 238 = .ok (.getfield 16, 3) := by decide +kernel
theorem dXM_join_241 : decode cXM_join 241 = .ok (.bipush 7, 2) := by decide +kernel
theorem dXM_join_243 : decode cXM_join 243 = .ok (.iload 5, 2) := by decide +kernel
theorem dXM_join_245 : decode cXM_join 245 = .ok (.imul, 1) := by decide +kernel
theorem dXM_join_246 : decode cXM_join 246 = .ok (.aload_n 0, 1) := by decide +kernel
theorem dXM_join_247 : decode cXM_join 247 = .ok (.getfield 16, 3) := by decide +kernel
theorem dXM_join_250 : decode cXM_join 250 = .ok (.bipush 7, 2) := by decide +kernel
theorem dXM_join_252 : decode cXM_join 252 = .ok (.iload 4, 2) := by decide +kernel
theorem dXM_join_254 : decode cXM_join 254 = .ok (.imul, 1) := by decide +kernel
theorem dXM_join_255 : decode cXM_join 255 = .ok (.invokestatic 49, 3) := by decide +kernel
theorem dXM_join_258 : decode cXM_join 258 = .ok (.ifCond .ne 34, 3) := by decide +kernel
theorem dXM_join_261 : decode cXM_join 261 = .ok (.iload 5, 2) := by decide +kernel
theorem dXM_join_263 : decode cXM_join 263 = .ok (.iload 4, 2) := by decide +kernel
theorem dXM_join_265 : decode cXM_join 265 = .ok (.if_icmp .le 31, 3) := by decide +kernel
theorem dXM_join_268 : decode cXM_join 268 = .ok (.aload_n 0, 1) := by decide +kernel
theorem dXM_join_269 : decode cXM_join 269 = .ok (.getfield 16, 3) := by decide +kernel
theorem dXM_join_272 : decode cXM_join 272 = .ok (.bipush 7, 2) := by decide +kernel
theorem dXM_join_274 : decode cXM_join 274 = .ok (.iload 4, 2) := by decide +kernel
theorem dXM_join_276 : decode cXM_join 276 = .ok (.imul, 1) := by decide +kernel
theorem dXM_join_277 : decode cXM_join 277 = .ok (.aload_n 0, 1) := by decide +kernel
theorem dXM_join_278 : decode cXM_join 278 = .ok (.getfield 16, 3) := by decide +kernel
theorem dXM_join_281 : decode cXM_join 281 = .ok (.bipush 7, 2) := by decide +kernel
theorem dXM_join_283 : decode cXM_join 283 = .ok (.iload 5, 2) := by decide +kernel
theorem dXM_join_285 : decode cXM_join 285 = .ok (.imul, 1) := by decide +kernel
theorem dXM_join_286 : decode cXM_join 286 = .ok (.invokestatic 49, 3) := by decide +kernel
theorem dXM_join_289 : decode cXM_join 289 = .ok (.ifCond .ne 7, 3) := by decide +kernel
theorem dXM_join_292 : decode cXM_join 292 = .ok (.iconst 1, 1) := by decide +kernel
theorem dXM_join_293 : decode cXM_join 293 = .ok (.goto 4, 3) := by decide +kernel
theorem dXM_join_296 : decode cXM_join 296 = .ok (.iconst 0, 1) := by decide +kernel
theorem dXM_join_297 : decode cXM_join 297 = .ok (.istore 7, 2) := by decide +kernel
theorem dXM_join_299 : decode cXM_join 299 = .ok (.aload_n 0, 1) := by decide +kernel
theorem dXM_join_300 : decode cXM_join 300 = .ok (.getfield 19, 3) := by decide +kernel
theorem dXM_join_303 : decode cXM_join 303 = .ok (.iload 4, 2) := by decide +kernel
theorem dXM_join_305 : decode cXM_join 305 = .ok (.iload 7, 2) := by decide +kernel
theorem dXM_join_307 : decode cXM_join 307 = .ok (.ifCond .eq 7, 3) := by decide +kernel
theorem dXM_join_310 : decode cXM_join 310 = .ok (.iconst 0, 1) := by decide +kernel
theorem dXM_join_311 : decode cXM_join 311 = .ok (.goto 7, 3) := by decide +kernel
theorem dXM_join_314 : decode cXM_join 314 = .ok (.aload_n 0, 1) := by decide +kernel
theorem dXM_join_315 : decode cXM_join 315 = .ok (.getfield 82, 3) := by decide +kernel
theorem dXM_join_318 : decode cXM_join 318 = .ok (.iastore, 1) := by decide +kernel
theorem dXM_join_319 : decode cXM_join 319 = .ok (.iinc 5 1, 3) := by decide +kernel
theorem dXM_join_322 : decode cXM_join 322 = .ok (.goto (-165), 3) := by decide +kernel
theorem dXM_join_325 : decode cXM_join 325 = .ok (.iinc 4 1, 3) := by decide +kernel
theorem dXM_join_328 : decode cXM_join 328 = .ok (.goto (-183), 3) := by decide +kernel
theorem dXM_join_331 : decode cXM_join 331 = .ok (.iconst 0, 1) := by decide +kernel
theorem dXM_join_332 : decode cXM_join 332 = .ok (.istore 4, 2) := by decide +kernel
theorem dXM_join_334 : decode cXM_join 334 = .ok (.iload 4, 2) := by decide +kernel
theorem dXM_join_336 : decode cXM_join 336 = .ok (.aload_n 0, 1) := by decide +kernel
theorem dXM_join_337 : decode cXM_join 337 = .ok (.getfield 85, 3) := by decide +kernel
theorem dXM_join_340 : decode cXM_join 340 = .ok (.if_icmp .ge 146, 3) := by decide +kernel
theorem dXM_join_343 : decode cXM_join 343 = .ok (.iconst 0, 1) := by decide +kernel
theorem dXM_join_344 : decode cXM_join 344 = .ok (.istore 5, 2) := by decide +kernel
theorem dXM_join_346 : decode cXM_join 346 = .ok (.iload 5, 2) := by decide +kernel
theorem dXM_join_348 : decode cXM_join 348 = .ok (.aload_n 0, 1) := by decide +kernel
theorem dXM_join_349 : decode cXM_join 349 = .ok (.getfield 85, 3) := by decide +kernel
theorem dXM_join_352 : decode cXM_join 352 = .ok (.if_icmp .ge 128, 3) := by decide +kernel
theorem dXM_join_355 : decode cXM_join 355 = .ok (.aload_n 0, 1) := by decide +kernel
theorem dXM_join_356 : decode cXM_join 356 = .ok (.getfield 19, 3) := by decide +kernel
theorem dXM_join_359 : decode cXM_join 359 = .ok (.iload 4, 2) := by decide +kernel
theorem dXM_join_361 : decode cXM_join 361 = .ok (.iaload, 1) := by decide +kernel
theorem dXM_join_362 : decode cXM_join 362 = .ok (.aload_n 0, 1) := by decide +kernel
theorem dXM_join_363 : decode cXM_join 363 = .ok (.getfield 82, 3) := by decide +kernel
theorem dXM_join_366 : decode cXM_join 366 = .ok (.if_icmp .ne 114, 3) := by decide +kernel
theorem dXM_join_369 : decode cXM_join 369 = .ok (.aload_n 0, 1) := by decide +kernel
theorem dXM_join_370 : decode cXM_join 370 = .ok (.getfield 16, 3) := by decide +kernel
theorem dXM_join_373 : decode cXM_join 373 = .ok (.bipush 7, 2) := by decide +kernel
theorem dXM_join_375 : decode cXM_join 375 = .ok (.iload 4, 2) := by decide +kernel
theorem dXM_join_377 : decode cXM_join 377 = .ok (.imul, 1) := by decide +kernel
theorem dXM_join_378 : decode cXM_join 378 = .ok (.invokestatic 38, 3) := by decide +kernel
theorem dXM_join_381 : decode cXM_join 381 = .ok (.ifCond .eq 99, 3) := by decide +kernel
theorem dXM_join_384 : decode cXM_join 384 = .ok (.bipush 7, 2) := by decide +kernel
theorem dXM_join_386 : decode cXM_join 386 = .ok (.iload 4, 2) := by decide +kernel
theorem dXM_join_388 : decode cXM_join 388 = .ok (.imul, 1) := by decide +kernel
theorem dXM_join_389 : decode cXM_join 389 = .ok (.istore 6, 2) := by decide +kernel
theorem dXM_join_391 : decode cXM_join 391 = .ok (.aload_n 0, 1) := by decide +kernel
theorem dXM_join_392 : decode cXM_join 392 = .ok (.getfield 19, 3) := by decide +kernel
theorem dXM_join_395 : decode cXM_join 395 = .ok (.iload 5, 2) := by decide +kernel
theorem dXM_join_397 : decode cXM_join 397 = .ok (.iaload, 1) := by decide +kernel
theorem dXM_join_398 : decode cXM_join 398 = .ok (.aload_n 0, 1) := by decide +kernel
theorem dXM_join_399 : decode cXM_join 399 = .ok (.getfield 82, 3) := by decide +kernel
theorem dXM_join_402 : decode cXM_join 402 = .ok (.if_icmp .ne 49, 3) := by decide +kernel
theorem dXM_join_405 : decode cXM_join 405 = .ok (.aload_n 0, 1) := by decide +kernel
theorem dXM_join_406 : decode cXM_join 406 = .ok (.getfield 16, 3) := by decide +kernel
theorem dXM_join_409 : decode cXM_join 409 = .ok (.bipush 7, 2) := by decide +kernel
theorem dXM_join_411 : decode cXM_join 411 = .ok (.iload 5, 2) := by decide +kernel
theorem dXM_join_413 : decode cXM_join 413 = .ok (.imul, 1) := by decide +kernel
theorem dXM_join_414 : decode cXM_join 414 = .ok (.aload_n 0, 1) := by decide +kernel
theorem dXM_join_415 : decode cXM_join 415 = .ok (.getfield 16, 3) := by decide +kernel
theorem dXM_join_418 : decode cXM_join 418 = .ok (.iload 6, 2) := by decide +kernel
theorem dXM_join_420 : decode cXM_join 420 = .ok (.iconst 1, 1) := by decide +kernel
theorem dXM_join_421 : decode cXM_join 421 = .ok (.iadd, 1) := by decide +kernel
theorem dXM_join_422 : decode cXM_join 422 = .ok (.iaload, 1) := by decide +kernel
theorem dXM_join_423 : decode cXM_join 423 = .ok (.aload_n 0, 1) := by decide +kernel
theorem dXM_join_424 : decode cXM_join 424 = .ok (.getfield 16, 3) := by decide +kernel
theorem dXM_join_427 : decode cXM_join 427 = .ok (.iload 6, 2) := by decide +kernel
theorem dXM_join_429 : decode cXM_join 429 = .ok (.iconst 2, 1) := by decide +kernel
theorem dXM_join_430 : decode cXM_join 430 = .ok (.iadd, 1) := by decide +kernel
theorem dXM_join_431 : decode cXM_join 431 = .ok (.iaload, 1) := by decide +kernel
theorem dXM_join_432 : decode cXM_join 432 = .ok (.aload_n 0, 1) := by decide +kernel
theorem dXM_join_433 : decode cXM_join 433 = .ok (.getfield 16, 3) := by decide +kernel
theorem dXM_join_436 : decode cXM_join 436 = .ok (.iload 6, 2) := by decide +kernel
theorem dXM_join_438 : decode cXM_join 438 = .ok (.iconst 4, 1) := by decide +kernel
theorem dXM_join_439 : decode cXM_join 439 = .ok (.iadd, 1) := by decide +kernel
theorem dXM_join_440 : decode cXM_join 440 = .ok (.iaload, 1) := by decide +kernel
theorem dXM_join_441 : decode cXM_join 441 = .ok (.invokestatic 98, 3) := by decide +kernel
theorem dXM_join_444 : decode cXM_join 444 = .ok (.ifCond .eq 7, 3) := by decide +kernel
theorem dXM_join_447 : decode cXM_join 447 = .ok (.iconst 1, 1) := by decide +kernel
theorem dXM_join_448 : decode cXM_join 448 = .ok (.goto 4, 3) := by decide +kernel
theorem dXM_join_451 : decode cXM_join 451 = .ok (.iconst 0, 1) := by decide +kernel
theorem dXM_join_452 : decode cXM_join 452 = .ok (.istore 7, 2) := by decide +kernel
theorem dXM_join_454 : decode cXM_join 454 = .ok (.aload_n 0, 1) := by decide +kernel
theorem dXM_join_455 : decode cXM_join 455 = .ok (.getfield 19, 3) := by decide +kernel
theorem dXM_join_458 : decode cXM_join 458 = .ok (.iload 4, 2) := by decide +kernel
theorem dXM_join_460 : decode cXM_join 460 = .ok (.iload 7, 2) := by decide +kernel
theorem dXM_join_462 : decode cXM_join 462 = .ok (.ifCond .eq 7, 3) := by decide +kernel
theorem dXM_join_465 : decode cXM_join 465 = .ok (.iconst 0, 1) := by decide +kernel
theorem dXM_join_466 : decode cXM_join 466 = .ok (.goto 7, 3) := by decide +kernel
theorem dXM_join_469 : decode cXM_join 469 = .ok (.aload_n 0, 1) := by decide +kernel
theorem dXM_join_470 : decode cXM_join 470 = .ok (.getfield 82, 3) := by decide +kernel
theorem dXM_join_473 : decode cXM_join 473 = .ok (.iastore, 1) := by decide +kernel
theorem dXM_join_474 : decode cXM_join 474 = .ok (.iinc 5 1, 3) := by decide +kernel
theorem dXM_join_477 : decode cXM_join 477 = .ok (.goto (-131), 3) := by decide +kernel
theorem dXM_join_480 : decode cXM_join 480 = .ok (.iinc 4 1, 3) := by decide +kernel
theorem dXM_join_483 : decode cXM_join 483 = .ok (.goto (-149), 3) := by decide +kernel
theorem dXM_join_486 : decode cXM_join 486 = .ok (.iconst 0, 1) := by decide +kernel
theorem dXM_join_487 : decode cXM_join 487 = .ok (.istore 4, 2) := by decide +kernel
theorem dXM_join_489 : decode cXM_join 489 = .ok (.iload 4, 2) := by decide +kernel
theorem dXM_join_491 : decode cXM_join 491 = .ok (.aload_n 0, 1) := by decide +kernel
theorem dXM_join_492 : decode cXM_join 492 = .ok (.getfield 85, 3) := by decide +kernel
theorem dXM_join_495 : decode cXM_join 495 = .ok (.if_icmp .ge 91, 3) := by decide +kernel
theorem dXM_join_498 : decode cXM_join 498 = .ok (.iload_n 3, 1) := by decide +kernel
theorem dXM_join_499 : decode cXM_join 499 = .ok (.ifCond .eq 87, 3) := by decide +kernel
theorem dXM_join_502 : decode cXM_join 502 = .ok (.aload_n 0, 1) := by decide +kernel
theorem dXM_join_503 : decode cXM_join 503 = .ok (.getfield 16, 3) := by decide +kernel
theorem dXM_join_506 : decode cXM_join 506 = .ok (.bipush 7, 2) := by decide +kernel
theorem dXM_join_508 : decode cXM_join 508 = .ok (.iload 4, 2) := by decide +kernel
theorem dXM_join_510 : decode cXM_join 510 = .ok (.imul, 1) := by decide +kernel
theorem dXM_join_511 : decode cXM_join 511 = .ok (.bipush 6, 2) := by decide +kernel
theorem dXM_join_513 : decode cXM_join 513 = .ok (.iadd, 1) := by decide +kernel
theorem dXM_join_514 : decode cXM_join 514 = .ok (.iaload, 1) := by decide +kernel
theorem dXM_join_515 : decode cXM_join 515 = .ok (.istore 5, 2) := by decide +kernel
theorem dXM_join_517 : decode cXM_join 517 = .ok (.iload 5, 2) := by decide +kernel
theorem dXM_join_519 : decode cXM_join 519 = .ok (.ifCond .lt 21, 3) := by decide +kernel
theorem dXM_join_522 : decode cXM_join 522 = .ok (.iload 5, 2) := by decide +kernel
theorem dXM_join_524 : decode cXM_join 524 = .ok (.aload_n 0, 1) := by decide +kernel
theorem dXM_join_525 : decode cXM_join 525 = .ok (.getfield 35, 3) := by decide +kernel
theorem dXM_join_528 : decode cXM_join 528 = .ok (.iadd, 1) := by decide +kernel
theorem dXM_join_529 : decode cXM_join 529 = .ok (.aload_n 0, 1) := by decide +kernel
theorem dXM_join_530 : decode cXM_join 530 = .ok (.getfield 75, 3) := by decide +kernel
theorem dXM_join_533 : decode cXM_join 533 = .ok (.if_icmp .gt 7, 3) := by decide +kernel
theorem dXM_join_536 : decode cXM_join 536 = .ok (.iconst 1, 1) := by decide +kernel
theorem dXM_join_537 : decode cXM_join 537 = .ok (.goto 4, 3) := by decide +kernel
theorem dXM_join_540 : decode cXM_join 540 = .ok (.iconst 0, 1) := by decide +kernel
theorem dXM_join_541 : decode cXM_join 541 = .ok (.istore 6, 2) := by decide +kernel
theorem dXM_join_543 : decode cXM_join 543 = .ok (.aload_n 0, 1) := by decide +kernel
theorem dXM_join_544 : decode cXM_join 544 = .ok (.getfield 19, 3) := by decide +kernel
theorem dXM_join_547 : decode cXM_join 547 = .ok (.iload 4, 2) := by decide +kernel
theorem dXM_join_549 : decode cXM_join 549 = .ok (.aload_n 0, 1) := by decide +kernel
theorem dXM_join_550 : decode cXM_join 550 = .ok (.getfield 19, 3) := by decide +kernel
theorem dXM_join_553 : decode cXM_join 553 = .ok (.iload 4, 2) := by decide +kernel
theorem dXM_join_555 : decode cXM_join 555 = .ok (.iaload, 1) := by decide +kernel
theorem dXM_join_556 : decode cXM_join 556 = .ok (.aload_n 0, 1) := by decide +kernel
theorem dXM_join_557 : decode cXM_join 557 = .ok (.getfield 82, 3) := by decide +kernel
theorem dXM_join_560 : decode cXM_join 560 = .ok (.if_icmp .ne 12, 3) := by decide +kernel
theorem dXM_join_563 : decode cXM_join 563 = .ok (.iload 6, 2) := by decide +kernel
theorem dXM_join_565 : decode cXM_join 565 = .ok (.ifCond .eq 7, 3) := by decide +kernel
theorem dXM_join_568 : decode cXM_join 568 = .ok (.iconst 0, 1) := by decide +kernel
theorem dXM_join_569 : decode cXM_join 569 = .ok (.goto 10, 3) := by decide +kernel
theorem dXM_join_572 : decode cXM_join 572 = .ok (.aload_n 0, 1) := by decide +kernel
theorem dXM_join_573 : decode cXM_join 573 = .ok (.getfield 19, 3) := by decide +kernel
theorem dXM_join_576 : decode cXM_join 576 = .ok (.iload 4, 2) := by decide +kernel
theorem dXM_join_578 : decode cXM_join 578 = .ok (.iaload, 1) := by decide +kernel
theorem dXM_join_579 : decode cXM_join 579 = .ok (.iastore, 1) := by decide +kernel
theorem dXM_join_580 : decode cXM_join 580 = .ok (.iinc 4 1, 3) := by decide +kernel
theorem dXM_join_583 : decode cXM_join 583 = .ok (.goto (-94), 3) := by decide +kernel
theorem dXM_join_586 : decode cXM_join 586 = .ok (.return_, 1) := by decide +kernel
theorem dXM_covers_0 : decode cXM_covers 0 = .ok (.aload_n 0, 1) := by decide +kernel
theorem dXM_covers_1 : decode cXM_covers 1 = .ok (.iload_n 1, 1) := by decide +kernel
theorem dXM_covers_2 : decode cXM_covers 2 = .ok (.iaload, 1) := by decide +kernel
theorem dXM_covers_3 : decode cXM_covers 3 = .ok (.iconst 2, 1) := by decide +kernel
theorem dXM_covers_4 : decode cXM_covers 4 = .ok (.if_icmp .ne 44, 3) := by decide +kernel
theorem dXM_covers_7 : decode cXM_covers 7 = .ok (.aload_n 0, 1) := by decide +kernel
theorem dXM_covers_8 : decode cXM_covers 8 = .ok (.iload_n 1, 1) := by decide +kernel
theorem dXM_covers_9 : decode cXM_covers 9 = .ok (.iconst 1, 1) := by decide +kernel
theorem dXM_covers_10 : decode cXM_covers 10 = .ok (.iadd, 1) := by decide +kernel
theorem dXM_covers_11 : decode cXM_covers 11 = .ok (.iaload, 1) := by decide +kernel
theorem dXM_covers_12 : decode cXM_covers 12 = .ok (.iload_n 2, 1) := by decide +kernel
theorem dXM_covers_13 : decode cXM_covers 13 = .ok (.if_icmp .ne 35, 3) := by decide +kernel
theorem dXM_covers_16 : decode cXM_covers 16 = .ok (.aload_n 0, 1) := by decide +kernel
theorem dXM_covers_17 : decode cXM_covers 17 = .ok (.iload_n 1, 1) := by decide +kernel
theorem dXM_covers_18 : decode cXM_covers 18 = .ok (.iconst 2, 1) := by decide +kernel
theorem dXM_covers_19 : decode cXM_covers 19 = .ok (.iadd, 1) := by decide +kernel
theorem dXM_covers_20 : decode cXM_covers 20 = .ok (.iaload, 1) := by decide +kernel
theorem dXM_covers_21 : decode cXM_covers 21 = .ok (.iload_n 3, 1) := by decide +kernel
theorem dXM_covers_22 : decode cXM_covers 22 = .ok (.if_icmp .gt 26, 3) := by decide +kernel
theorem dXM_covers_25 : decode cXM_covers 25 = .ok (.iload_n 3, 1) := by decide +kernel
theorem dXM_covers_26 : decode cXM_covers 26 = .ok (.aload_n 0, 1) := by decide +kernel
theorem dXM_covers_27 : decode cXM_covers 27 = .ok (.iload_n 1, 1) := by decide +kernel
theorem dXM_covers_28 : decode cXM_covers 28 = .ok (.iconst 3, 1) := by decide +kernel
theorem dXM_covers_29 : decode cXM_covers 29 = .ok (.iadd, 1) := by decide +kernel
theorem dXM_covers_30 : decode cXM_covers 30 = .ok (.iaload, 1) := by decide +kernel
theorem dXM_covers_31 : decode cXM_covers 31 = .ok (.if_icmp .gt 17, 3) := by decide +kernel
theorem dXM_covers_34 : decode cXM_covers 34 = .ok (.iload 4, 2) := by decide +kernel
theorem dXM_covers_36 : decode cXM_covers 36 = .ok (.aload_n 0, 1) := by decide +kernel
theorem dXM_covers_37 : decode cXM_covers 37 = .ok (.iload_n 1, 1) := by decide +kernel
theorem dXM_covers_38 : decode cXM_covers 38 = .ok (.iconst 4, 1) := by decide +kernel
theorem dXM_covers_39 : decode cXM_covers 39 = .ok (.iadd, 1) := by decide +kernel
theorem dXM_covers_40 : decode cXM_covers 40 = .ok (.iaload, 1) := by decide +kernel
theorem dXM_covers_41 : decode cXM_covers 41 = .ok (.if_icmp .gt 7, 3) := by decide +kernel
theorem dXM_covers_44 : decode cXM_covers 44 = .ok (.iconst 1, 1) := by decide +kernel
theorem dXM_covers_45 : decode cXM_covers 45 = .ok (.goto 4, 3) := by decide +kernel
theorem dXM_covers_48 : decode cXM_covers 48 = .ok (.iconst 0, 1) := by decide +kernel
theorem dXM_covers_49 : decode cXM_covers 49 = .ok (.ireturn, 1) := by decide +kernel
theorem dXM_delete_0 : decode cXM_delete 0 = .ok (.iload_n 1, 1) := by decide +kernel
theorem dXM_delete_1 : decode cXM_delete 1 = .ok (.iload_n 2, 1) := by decide +kernel
theorem dXM_delete_2 : decode cXM_delete 2 = .ok (.invokestatic 67, 3) := by decide +kernel
theorem dXM_delete_5 : decode cXM_delete 5 = .ok (.ifCond .eq 31, 3) := by decide +kernel
theorem dXM_delete_8 : decode cXM_delete 8 = .ok (.iload_n 3, 1) := by decide +kernel
theorem dXM_delete_9 : decode cXM_delete 9 = .ok (.invokestatic 71, 3) := by decide +kernel
theorem dXM_delete_12 : decode cXM_delete 12 = .ok (.ifCond .eq 24, 3) := by decide +kernel
theorem dXM_delete_15 : decode cXM_delete 15 = .ok (.aload_n 0, 1) := by decide +kernel
theorem dXM_delete_16 : decode cXM_delete 16 = .ok (.iconst 1, 1) := by decide +kernel
theorem dXM_delete_17 : decode cXM_delete 17 = .ok (.iload_n 1, 1) := by decide +kernel
theorem dXM_delete_18 : decode cXM_delete 18 = .ok (.iload_n 2, 1) := by decide +kernel
theorem dXM_delete_19 : decode cXM_delete 19 = .ok (.iload_n 2, 1) := by decide +kernel
theorem dXM_delete_20 : decode cXM_delete 20 = .ok (.iload_n 3, 1) := by decide +kernel
theorem dXM_delete_21 : decode cXM_delete 21 = .ok (.iconst 0, 1) := by decide +kernel
theorem dXM_delete_22 : decode cXM_delete 22 = .ok (.aload_n 0, 1) := by decide +kernel
theorem dXM_delete_23 : decode cXM_delete 23 = .ok (.getfield 75, 3) := by decide +kernel
theorem dXM_delete_26 : decode cXM_delete 26 = .ok (.invokevirtual 78, 3) := by decide +kernel
theorem dXM_delete_29 : decode cXM_delete 29 = .ok (.ifCond .eq 7, 3) := by decide +kernel
theorem dXM_delete_32 : decode cXM_delete 32 = .ok (.iconst 1, 1) := by decide +kernel
theorem dXM_delete_33 : decode cXM_delete 33 = .ok (.goto 4, 3) := by decide +kernel
theorem dXM_delete_36 : decode cXM_delete 36 = .ok (.iconst 0, 1) := by decide +kernel
theorem dXM_delete_37 : decode cXM_delete 37 = .ok (.ireturn, 1) := by decide +kernel
theorem dXM_wipe_0 : decode cXM_wipe 0 = .ok (.iload_n 1, 1) := by decide +kernel
theorem dXM_wipe_1 : decode cXM_wipe 1 = .ok (.iload_n 2, 1) := by decide +kernel
theorem dXM_wipe_2 : decode cXM_wipe 2 = .ok (.invokestatic 67, 3) := by decide +kernel
theorem dXM_wipe_5 : decode cXM_wipe 5 = .ok (.ifCond .eq 46, 3) := by decide +kernel
theorem dXM_wipe_8 : decode cXM_wipe 8 = .ok (.iload_n 1, 1) := by decide +kernel
theorem dXM_wipe_9 : decode cXM_wipe 9 = .ok (.iload_n 3, 1) := by decide +kernel
theorem dXM_wipe_10 : decode cXM_wipe 10 = .ok (.invokestatic 67, 3) := by decide +kernel
theorem dXM_wipe_13 : decode cXM_wipe 13 = .ok (.ifCond .eq 38, 3) := by decide +kernel
theorem dXM_wipe_16 : decode cXM_wipe 16 = .ok (.iload_n 2, 1) := by decide +kernel
theorem dXM_wipe_17 : decode cXM_wipe 17 = .ok (.iload_n 3, 1) := by decide +kernel
theorem dXM_wipe_18 : decode cXM_wipe 18 = .ok (.if_icmp .gt 33, 3) := by decide +kernel
theorem dXM_wipe_21 : decode cXM_wipe 21 = .ok (.iload 4, 2) := by decide +kernel
theorem dXM_wipe_23 : decode cXM_wipe 23 = .ok (.invokestatic 71, 3) := by decide +kernel
theorem dXM_wipe_26 : decode cXM_wipe 26 = .ok (.ifCond .eq 25, 3) := by decide +kernel
theorem dXM_wipe_29 : decode cXM_wipe 29 = .ok (.aload_n 0, 1) := by decide +kernel
theorem dXM_wipe_30 : decode cXM_wipe 30 = .ok (.iconst 2, 1) := by decide +kernel
theorem dXM_wipe_31 : decode cXM_wipe 31 = .ok (.iload_n 1, 1) := by decide +kernel
theorem dXM_wipe_32 : decode cXM_wipe 32 = .ok (.iload_n 2, 1) := by decide +kernel
theorem dXM_wipe_33 : decode cXM_wipe 33 = .ok (.iload_n 3, 1) := by decide +kernel
theorem dXM_wipe_34 : decode cXM_wipe 34 = .ok (.iload 4, 2) := by decide +kernel
theorem dXM_wipe_36 : decode cXM_wipe 36 = .ok (.iconst 0, 1) := by decide +kernel
theorem dXM_wipe_37 : decode cXM_wipe 37 = .ok (.aload_n 0, 1) := by decide +kernel
theorem dXM_wipe_38 : decode cXM_wipe 38 = .ok (.getfield 75, 3) := by decide +kernel
theorem dXM_wipe_41 : decode cXM_wipe 41 = .ok (.invokevirtual 78, 3) := by decide +kernel
theorem dXM_wipe_44 : decode cXM_wipe 44 = .ok (.ifCond .eq 7, 3) := by decide +kernel
theorem dXM_wipe_47 : decode cXM_wipe 47 = .ok (.iconst 1, 1) := by decide +kernel
theorem dXM_wipe_48 : decode cXM_wipe 48 = .ok (.goto 4, 3) := by decide +kernel
theorem dXM_wipe_51 : decode cXM_wipe 51 = .ok (.iconst 0, 1) := by decide +kernel
theorem dXM_wipe_52 : decode cXM_wipe 52 = .ok (.ireturn, 1) := by decide +kernel
theorem dXM_flush_0 : decode cXM_flush 0 = .ok (.aload_n 0, 1) := by decide +kernel
theorem dXM_flush_1 : decode cXM_flush 1 = .ok (.invokevirtual 63, 3) := by decide +kernel
theorem dXM_flush_4 : decode cXM_flush 4 = .ok (.ireturn, 1) := by decide +kernel
theorem dXM_merge_0 : decode cXM_merge 0 = .ok (.aload_n 0, 1) := by decide +kernel
theorem dXM_merge_1 : decode cXM_merge 1 = .ok (.getfield 88, 3) := by decide +kernel
theorem dXM_merge_4 : decode cXM_merge 4 = .ok (.ifCond .ne 5, 3) := by decide +kernel
theorem dXM_merge_7 : decode cXM_merge 7 = .ok (.iconst 0, 1) := by decide +kernel
theorem dXM_merge_8 : decode cXM_merge 8 = .ok (.ireturn, 1) := by decide +kernel
theorem dXM_merge_9 : decode cXM_merge 9 = .ok (.iconst 0, 1) := by decide +kernel
theorem dXM_merge_10 : decode cXM_merge 10 = .ok (.istore_n 1, 1) := by decide +kernel
theorem dXM_merge_11 : decode cXM_merge 11 = .ok (.iconst 0, 1) := by decide +kernel
theorem dXM_merge_12 : decode cXM_merge 12 = .ok (.istore_n 2, 1) := by decide +kernel
theorem dXM_merge_13 : decode cXM_merge 13 = .ok (.iload_n 2, 1) := by decide +kernel
theorem dXM_merge_14 : decode cXM_merge 14 = .ok (.aload_n 0, 1) := by decide +kernel
theorem dXM_merge_15 : decode cXM_merge 15 = .ok (.getfield 88, 3) := by decide +kernel
theorem dXM_merge_18 : decode cXM_merge 18 = .ok (.if_icmp .ge 30, 3) := by decide +kernel
theorem dXM_merge_21 : decode cXM_merge 21 = .ok (.aload_n 0, 1) := by decide +kernel
theorem dXM_merge_22 : decode cXM_merge 22 = .ok (.getfield 25, 3) := by decide +kernel
theorem dXM_merge_25 : decode cXM_merge 25 = .ok (.iload_n 2, 1) := by decide +kernel
theorem dXM_merge_26 : decode cXM_merge 26 = .ok (.iaload, 1) := by decide +kernel
theorem dXM_merge_27 : decode cXM_merge 27 = .ok (.iload_n 1, 1) := by decide +kernel
theorem dXM_merge_28 : decode cXM_merge 28 = .ok (.if_icmp .le 12, 3) := by decide +kernel
theorem dXM_merge_31 : decode cXM_merge 31 = .ok (.aload_n 0, 1) := by decide +kernel
theorem dXM_merge_32 : decode cXM_merge 32 = .ok (.getfield 25, 3) := by decide +kernel
theorem dXM_merge_35 : decode cXM_merge 35 = .ok (.iload_n 2, 1) := by decide +kernel
theorem dXM_merge_36 : decode cXM_merge 36 = .ok (.iaload, 1) := by decide +kernel
theorem dXM_merge_37 : decode cXM_merge 37 = .ok (.goto 4, 3) := by decide +kernel
theorem dXM_merge_40 : decode cXM_merge 40 = .ok (.iload_n 1, 1) := by decide +kernel
theorem dXM_merge_41 : decode cXM_merge 41 = .ok (.istore_n 1, 1) := by decide +kernel
theorem dXM_merge_42 : decode cXM_merge 42 = .ok (.iinc 2 1, 3) := by decide +kernel
theorem dXM_merge_45 : decode cXM_merge 45 = .ok (.goto (-32), 3) := by decide +kernel
theorem dXM_merge_48 : decode cXM_merge 48 = .ok (.aload_n 0, 1) := by decide +kernel
theorem dXM_merge_49 : decode cXM_merge 49 = .ok (.aload_n 0, 1) := by decide +kernel
theorem dXM_merge_50 : decode cXM_merge 50 = .ok (.getfield 88, 3) := by decide +kernel
theorem dXM_merge_53 : decode cXM_merge 53 = .ok (.iload_n 1, 1) := by decide +kernel
theorem dXM_merge_54 : decode cXM_merge 54 = .ok (.invokevirtual 94, 3) := by decide +kernel
theorem dXM_merge_57 : decode cXM_merge 57 = .ok (.aload_n 0, 1) := by decide +kernel
theorem dXM_merge_58 : decode cXM_merge 58 = .ok (.iconst 0, 1) := by decide +kernel
theorem dXM_merge_59 : decode cXM_merge 59 = .ok (.iconst 0, 1) := by decide +kernel
theorem dXM_merge_60 : decode cXM_merge 60 = .ok (.invokevirtual 102, 3) := by decide +kernel
theorem dXM_merge_63 : decode cXM_merge 63 = .ok (.ireturn, 1) := by decide +kernel
theorem dXM_run_0 : decode cXM_run 0 = .ok (.iload_n 1, 1) := by decide +kernel
theorem dXM_run_1 : decode cXM_run 1 = .ok (.ifCond .lt 20, 3) := by decide +kernel
theorem dXM_run_4 : decode cXM_run 4 = .ok (.iload_n 1, 1) := by decide +kernel
theorem dXM_run_5 : decode cXM_run 5 = .ok (.aload_n 0, 1) := by decide +kernel
theorem dXM_run_6 : decode cXM_run 6 = .ok (.getfield 88, 3) := by decide +kernel
theorem dXM_run_9 : decode cXM_run 9 = .ok (.if_icmp .ge 12, 3) := by decide +kernel
theorem dXM_run_12 : decode cXM_run 12 = .ok (.iload_n 2, 1) := by decide +kernel
theorem dXM_run_13 : decode cXM_run 13 = .ok (.ifCond .lt 8, 3) := by decide +kernel
theorem dXM_run_16 : decode cXM_run 16 = .ok (.iload_n 2, 1) := by decide +kernel
theorem dXM_run_17 : decode cXM_run 17 = .ok (.iconst 2, 1) := by decide +kernel
theorem dXM_run_18 : decode cXM_run 18 = .ok (.if_icmp .le 5, 3) := by decide +kernel
theorem dXM_run_21 : decode cXM_run 21 = .ok (.iconst (-1), 1) := by decide +kernel
theorem dXM_run_22 : decode cXM_run 22 = .ok (.ireturn, 1) := by decide +kernel
theorem dXM_run_23 : decode cXM_run 23 = .ok (.iconst 0, 1) := by decide +kernel
theorem dXM_run_24 : decode cXM_run 24 = .ok (.istore_n 3, 1) := by decide +kernel
theorem dXM_run_25 : decode cXM_run 25 = .ok (.iconst 0, 1) := by decide +kernel
theorem dXM_run_26 : decode cXM_run 26 = .ok (.istore 4, 2) := by decide +kernel
theorem dXM_run_28 : decode cXM_run 28 = .ok (.iload 4, 2) := by decide +kernel
theorem dXM_run_30 : decode cXM_run 30 = .ok (.aload_n 0, 1) := by decide +kernel
theorem dXM_run_31 : decode cXM_run 31 = .ok (.getfield 85, 3) := by decide +kernel
theorem dXM_run_34 : decode cXM_run 34 = .ok (.if_icmp .ge 52, 3) := by decide +kernel
theorem dXM_run_37 : decode cXM_run 37 = .ok (.aload_n 0, 1) := by decide +kernel
theorem dXM_run_38 : decode cXM_run 38 = .ok (.getfield 19, 3) := by decide +kernel
theorem dXM_run_41 : decode cXM_run 41 = .ok (.iload 4, 2) := by decide +kernel
theorem dXM_run_43 : decode cXM_run 43 = .ok (.iaload, 1) := by decide +kernel
theorem dXM_run_44 : decode cXM_run 44 = .ok (.aload_n 0, 1) := by decide +kernel
theorem dXM_run_45 : decode cXM_run 45 = .ok (.getfield 22, 3) := by decide +kernel
theorem dXM_run_48 : decode cXM_run 48 = .ok (.iload_n 1, 1) := by decide +kernel
theorem dXM_run_49 : decode cXM_run 49 = .ok (.iaload, 1) := by decide +kernel
theorem dXM_run_50 : decode cXM_run 50 = .ok (.if_icmp .ne 28, 3) := by decide +kernel
theorem dXM_run_53 : decode cXM_run 53 = .ok (.iload_n 2, 1) := by decide +kernel
theorem dXM_run_54 : decode cXM_run 54 = .ok (.ifCond .eq 18, 3) := by decide +kernel
theorem dXM_run_57 : decode cXM_run 57 = .ok (.aload_n 0, 1) := by decide +kernel
theorem dXM_run_58 : decode cXM_run 58 = .ok (.getfield 16, 3) := by decide +kernel
theorem dXM_run_61 : decode cXM_run 61 = .ok (.bipush 7, 2) := by decide +kernel
theorem dXM_run_63 : decode cXM_run 63 = .ok (.iload 4, 2) := by decide +kernel
theorem dXM_run_65 : decode cXM_run 65 = .ok (.imul, 1) := by decide +kernel
theorem dXM_run_66 : decode cXM_run 66 = .ok (.invokestatic 38, 3) := by decide +kernel
theorem dXM_run_69 : decode cXM_run 69 = .ok (.ifCond .ne 9, 3) := by decide +kernel
theorem dXM_run_72 : decode cXM_run 72 = .ok (.iload_n 3, 1) := by decide +kernel
theorem dXM_run_73 : decode cXM_run 73 = .ok (.iconst 1, 1) := by decide +kernel
theorem dXM_run_74 : decode cXM_run 74 = .ok (.iadd, 1) := by decide +kernel
theorem dXM_run_75 : decode cXM_run 75 = .ok (.goto 4, 3) := by decide +kernel
theorem dXM_run_78 : decode cXM_run 78 = .ok (.iload_n 3, 1) := by decide +kernel
theorem dXM_run_79 : decode cXM_run 79 = .ok (.istore_n 3, 1) := by decide +kernel
theorem dXM_run_80 : decode cXM_run 80 = .ok (.iinc 4 1, 3) := by decide +kernel
theorem dXM_run_83 : decode cXM_run 83 = .ok (.goto (-55), 3) := by decide +kernel
theorem dXM_run_86 : decode cXM_run 86 = .ok (.iload_n 2, 1) := by decide +kernel
theorem dXM_run_87 : decode cXM_run 87 = .ok (.iconst 1, 1) := by decide +kernel
theorem dXM_run_88 : decode cXM_run 88 = .ok (.if_icmp .ne 12, 3) := by decide +kernel
theorem dXM_run_91 : decode cXM_run 91 = .ok (.aload_n 0, 1) := by decide +kernel
theorem dXM_run_92 : decode cXM_run 92 = .ok (.getfield 25, 3) := by decide +kernel
theorem dXM_run_95 : decode cXM_run 95 = .ok (.iload_n 1, 1) := by decide +kernel
theorem dXM_run_96 : decode cXM_run 96 = .ok (.iaload, 1) := by decide +kernel
theorem dXM_run_97 : decode cXM_run 97 = .ok (.goto 4, 3) := by decide +kernel
theorem dXM_run_100 : decode cXM_run 100 = .ok (.iload_n 3, 1) := by decide +kernel
theorem dXM_run_101 : decode cXM_run 101 = .ok (.ireturn, 1) := by decide +kernel
theorem dXM_get_0 : decode cXM_get 0 = .ok (.aload_n 0, 1) := by decide +kernel
theorem dXM_get_1 : decode cXM_get 1 = .ok (.iload_n 1, 1) := by decide +kernel
theorem dXM_get_2 : decode cXM_get 2 = .ok (.iload_n 2, 1) := by decide +kernel
theorem dXM_get_3 : decode cXM_get 3 = .ok (.invokevirtual 110, 3) := by decide +kernel
theorem dXM_get_6 : decode cXM_get 6 = .ok (.ifCond .eq 12, 3) := by decide +kernel
theorem dXM_get_9 : decode cXM_get 9 = .ok (.aload_n 0, 1) := by decide +kernel
theorem dXM_get_10 : decode cXM_get 10 = .ok (.getfield 28, 3) := by decide +kernel
theorem dXM_get_13 : decode cXM_get 13 = .ok (.iconst 5, 1) := by decide +kernel
theorem dXM_get_14 : decode cXM_get 14 = .ok (.iaload, 1) := by decide +kernel
theorem dXM_get_15 : decode cXM_get 15 = .ok (.goto 4, 3) := by decide +kernel
theorem dXM_get_18 : decode cXM_get 18 = .ok (.iconst 0, 1) := by decide +kernel
theorem dXM_get_19 : decode cXM_get 19 = .ok (.ireturn, 1) := by decide +kernel
theorem dXM_seen_0 : decode cXM_seen 0 = .ok (.iload_n 1, 1) := by decide +kernel
theorem dXM_seen_1 : decode cXM_seen 1 = .ok (.iload_n 2, 1) := by decide +kernel
theorem dXM_seen_2 : decode cXM_seen 2 = .ok (.invokestatic 67, 3) := by decide +kernel
theorem dXM_seen_5 : decode cXM_seen 5 = .ok (.ifCond .eq 12, 3) := by decide +kernel
theorem dXM_seen_8 : decode cXM_seen 8 = .ok (.aload_n 0, 1) := by decide +kernel
theorem dXM_seen_9 : decode cXM_seen 9 = .ok (.iload_n 1, 1) := by decide +kernel
theorem dXM_seen_10 : decode cXM_seen 10 = .ok (.iload_n 2, 1) := by decide +kernel
theorem dXM_seen_11 : decode cXM_seen 11 = .ok (.invokevirtual 107, 3) := by decide +kernel
theorem dXM_seen_14 : decode cXM_seen 14 = .ok (.goto 5, 3) := by decide +kernel
theorem dXM_seen_17 : decode cXM_seen 17 = .ok (.ldc 106, 2) := by decide +kernel
theorem dXM_seen_19 : decode cXM_seen 19 = .ok (.istore_n 3, 1) := by decide +kernel
theorem dXM_seen_20 : decode cXM_seen 20 = .ok (.iload_n 3, 1) := by decide +kernel
theorem dXM_seen_21 : decode cXM_seen 21 = .ok (.ldc 106, 2) := by decide +kernel
theorem dXM_seen_23 : decode cXM_seen 23 = .ok (.if_icmp .ne 5, 3) := by decide +kernel
theorem dXM_seen_26 : decode cXM_seen 26 = .ok (.iconst 0, 1) := by decide +kernel
theorem dXM_seen_27 : decode cXM_seen 27 = .ok (.ireturn, 1) := by decide +kernel
theorem dXM_seen_28 : decode cXM_seen 28 = .ok (.iload_n 3, 1) := by decide +kernel
theorem dXM_seen_29 : decode cXM_seen 29 = .ok (.ifCond .ge 10, 3) := by decide +kernel
theorem dXM_seen_32 : decode cXM_seen 32 = .ok (.aload_n 0, 1) := by decide +kernel
theorem dXM_seen_33 : decode cXM_seen 33 = .ok (.getfield 7, 3) := by decide +kernel
theorem dXM_seen_36 : decode cXM_seen 36 = .ok (.goto 7, 3) := by decide +kernel
theorem dXM_seen_39 : decode cXM_seen 39 = .ok (.aload_n 0, 1) := by decide +kernel
theorem dXM_seen_40 : decode cXM_seen 40 = .ok (.getfield 16, 3) := by decide +kernel
theorem dXM_seen_43 : decode cXM_seen 43 = .ok (.iload_n 3, 1) := by decide +kernel
theorem dXM_seen_44 : decode cXM_seen 44 = .ok (.ifCond .ge 9, 3) := by decide +kernel
theorem dXM_seen_47 : decode cXM_seen 47 = .ok (.iconst (-1), 1) := by decide +kernel
theorem dXM_seen_48 : decode cXM_seen 48 = .ok (.iload_n 3, 1) := by decide +kernel
theorem dXM_seen_49 : decode cXM_seen 49 = .ok (.isub, 1) := by decide +kernel
theorem dXM_seen_50 : decode cXM_seen 50 = .ok (.goto 4, 3) := by decide +kernel
theorem dXM_seen_53 : decode cXM_seen 53 = .ok (.iload_n 3, 1) := by decide +kernel
theorem dXM_seen_54 : decode cXM_seen 54 = .ok (.aload_n 0, 1) := by decide +kernel
theorem dXM_seen_55 : decode cXM_seen 55 = .ok (.getfield 28, 3) := by decide +kernel
theorem dXM_seen_58 : decode cXM_seen 58 = .ok (.iconst 0, 1) := by decide +kernel
theorem dXM_seen_59 : decode cXM_seen 59 = .ok (.invokestatic 52, 3) := by decide +kernel
theorem dXM_seen_62 : decode cXM_seen 62 = .ok (.aload_n 0, 1) := by decide +kernel
theorem dXM_seen_63 : decode cXM_seen 63 = .ok (.getfield 28, 3) := by decide +kernel
theorem dXM_seen_66 : decode cXM_seen 66 = .ok (.iconst 0, 1) := by decide +kernel
theorem dXM_seen_67 : decode cXM_seen 67 = .ok (.iaload, 1) := by decide +kernel
theorem dXM_seen_68 : decode cXM_seen 68 = .ok (.ifCond .ne 27, 3) := by decide +kernel
theorem dXM_seen_71 : decode cXM_seen 71 = .ok (.aload_n 0, 1) := by decide +kernel
theorem dXM_seen_72 : decode cXM_seen 72 = .ok (.getfield 28, 3) := by decide +kernel
theorem dXM_seen_75 : decode cXM_seen 75 = .ok (.bipush 6, 2) := by decide +kernel
theorem dXM_seen_77 : decode cXM_seen 77 = .ok (.iaload, 1) := by decide +kernel
theorem dXM_seen_78 : decode cXM_seen 78 = .ok (.ifCond .lt 19, 3) := by decide +kernel
theorem dXM_seen_81 : decode cXM_seen 81 = .ok (.aload_n 0, 1) := by decide +kernel
theorem dXM_seen_82 : decode cXM_seen 82 = .ok (.getfield 28, 3) := by decide +kernel
theorem dXM_seen_85 : decode cXM_seen 85 = .ok (.bipush 6, 2) := by decide +kernel
theorem dXM_seen_87 : decode cXM_seen 87 = .ok (.iaload, 1) := by decide +kernel
theorem dXM_seen_88 : decode cXM_seen 88 = .ok (.aload_n 0, 1) := by decide +kernel
theorem dXM_seen_89 : decode cXM_seen 89 = .ok (.getfield 75, 3) := by decide +kernel
theorem dXM_seen_92 : decode cXM_seen 92 = .ok (.if_icmp .gt 5, 3) := by decide +kernel
theorem dXM_seen_95 : decode cXM_seen 95 = .ok (.iconst 0, 1) := by decide +kernel
theorem dXM_seen_96 : decode cXM_seen 96 = .ok (.ireturn, 1) := by decide +kernel
theorem dXM_seen_97 : decode cXM_seen 97 = .ok (.iconst 0, 1) := by decide +kernel
theorem dXM_seen_98 : decode cXM_seen 98 = .ok (.istore 4, 2) := by decide +kernel
theorem dXM_seen_100 : decode cXM_seen 100 = .ok (.iload 4, 2) := by decide +kernel
theorem dXM_seen_102 : decode cXM_seen 102 = .ok (.aload_n 0, 1) := by decide +kernel
theorem dXM_seen_103 : decode cXM_seen 103 = .ok (.getfield 85, 3) := by decide +kernel
theorem dXM_seen_106 : decode cXM_seen 106 = .ok (.if_icmp .ge 44, 3) := by decide +kernel
theorem dXM_seen_109 : decode cXM_seen 109 = .ok (.aload_n 0, 1) := by decide +kernel
theorem dXM_seen_110 : decode cXM_seen 110 = .ok (.getfield 19, 3) := by decide +kernel
theorem dXM_seen_113 : decode cXM_seen 113 = .ok (.iload 4, 2) := by decide +kernel
theorem dXM_seen_115 : decode cXM_seen 115 = .ok (.iaload, 1) := by decide +kernel
theorem dXM_seen_116 : decode cXM_seen 116 = .ok (.ifCond .le 28, 3) := by decide +kernel
theorem dXM_seen_119 : decode cXM_seen 119 = .ok (.aload_n 0, 1) := by decide +kernel
theorem dXM_seen_120 : decode cXM_seen 120 = .ok (.getfield 16, 3) := by decide +kernel
theorem dXM_seen_123 : decode cXM_seen 123 = .ok (.bipush 7, 2) := by decide +kernel
theorem dXM_seen_125 : decode cXM_seen 125 = .ok (.iload 4, 2) := by decide +kernel
theorem dXM_seen_127 : decode cXM_seen 127 = .ok (.imul, 1) := by decide +kernel
theorem dXM_seen_128 : decode cXM_seen 128 = .ok (.iload_n 1, 1) := by decide +kernel
theorem dXM_seen_129 : decode cXM_seen 129 = .ok (.iload_n 2, 1) := by decide +kernel
theorem dXM_seen_130 : decode cXM_seen 130 = .ok (.aload_n 0, 1) := by decide +kernel
theorem dXM_seen_131 : decode cXM_seen 131 = .ok (.getfield 28, 3) := by decide +kernel
theorem dXM_seen_134 : decode cXM_seen 134 = .ok (.iconst 4, 1) := by decide +kernel
theorem dXM_seen_135 : decode cXM_seen 135 = .ok (.iaload, 1) := by decide +kernel
theorem dXM_seen_136 : decode cXM_seen 136 = .ok (.invokestatic 98, 3) := by decide +kernel
theorem dXM_seen_139 : decode cXM_seen 139 = .ok (.ifCond .eq 5, 3) := by decide +kernel
theorem dXM_seen_142 : decode cXM_seen 142 = .ok (.iconst 0, 1) := by decide +kernel
theorem dXM_seen_143 : decode cXM_seen 143 = .ok (.ireturn, 1) := by decide +kernel
theorem dXM_seen_144 : decode cXM_seen 144 = .ok (.iinc 4 1, 3) := by decide +kernel
theorem dXM_seen_147 : decode cXM_seen 147 = .ok (.goto (-47), 3) := by decide +kernel
theorem dXM_seen_150 : decode cXM_seen 150 = .ok (.iconst 0, 1) := by decide +kernel
theorem dXM_seen_151 : decode cXM_seen 151 = .ok (.istore 4, 2) := by decide +kernel
theorem dXM_seen_153 : decode cXM_seen 153 = .ok (.iload 4, 2) := by decide +kernel
theorem dXM_seen_155 : decode cXM_seen 155 = .ok (.aload_n 0, 1) := by decide +kernel
theorem dXM_seen_156 : decode cXM_seen 156 = .ok (.getfield 42, 3) := by decide +kernel
theorem dXM_seen_159 : decode cXM_seen 159 = .ok (.if_icmp .ge 34, 3) := by decide +kernel
theorem dXM_seen_162 : decode cXM_seen 162 = .ok (.aload_n 0, 1) := by decide +kernel
theorem dXM_seen_163 : decode cXM_seen 163 = .ok (.getfield 7, 3) := by decide +kernel
theorem dXM_seen_166 : decode cXM_seen 166 = .ok (.bipush 7, 2) := by decide +kernel
theorem dXM_seen_168 : decode cXM_seen 168 = .ok (.iload 4, 2) := by decide +kernel
theorem dXM_seen_170 : decode cXM_seen 170 = .ok (.imul, 1) := by decide +kernel
theorem dXM_seen_171 : decode cXM_seen 171 = .ok (.iload_n 1, 1) := by decide +kernel
theorem dXM_seen_172 : decode cXM_seen 172 = .ok (.iload_n 2, 1) := by decide +kernel
theorem dXM_seen_173 : decode cXM_seen 173 = .ok (.aload_n 0, 1) := by decide +kernel
theorem dXM_seen_174 : decode cXM_seen 174 = .ok (.getfield 28, 3) := by decide +kernel
theorem dXM_seen_177 : decode cXM_seen 177 = .ok (.iconst 4, 1) := by decide +kernel
theorem dXM_seen_178 : decode cXM_seen 178 = .ok (.iaload, 1) := by decide +kernel
theorem dXM_seen_179 : decode cXM_seen 179 = .ok (.invokestatic 98, 3) := by decide +kernel
theorem dXM_seen_182 : decode cXM_seen 182 = .ok (.ifCond .eq 5, 3) := by decide +kernel
theorem dXM_seen_185 : decode cXM_seen 185 = .ok (.iconst 0, 1) := by decide +kernel
theorem dXM_seen_186 : decode cXM_seen 186 = .ok (.ireturn, 1) := by decide +kernel
theorem dXM_seen_187 : decode cXM_seen 187 = .ok (.iinc 4 1, 3) := by decide +kernel
theorem dXM_seen_190 : decode cXM_seen 190 = .ok (.goto (-37), 3) := by decide +kernel
theorem dXM_seen_193 : decode cXM_seen 193 = .ok (.iconst 1, 1) := by decide +kernel
theorem dXM_seen_194 : decode cXM_seen 194 = .ok (.ireturn, 1) := by decide +kernel
theorem dXM_winner_0 : decode cXM_winner 0 = .ok (.ldc 106, 2) := by decide +kernel
theorem dXM_winner_2 : decode cXM_winner 2 = .ok (.istore_n 3, 1) := by decide +kernel
theorem dXM_winner_3 : decode cXM_winner 3 = .ok (.iconst 0, 1) := by decide +kernel
theorem dXM_winner_4 : decode cXM_winner 4 = .ok (.istore 4, 2) := by decide +kernel
theorem dXM_winner_6 : decode cXM_winner 6 = .ok (.iload 4, 2) := by decide +kernel
theorem dXM_winner_8 : decode cXM_winner 8 = .ok (.aload_n 0, 1) := by decide +kernel
theorem dXM_winner_9 : decode cXM_winner 9 = .ok (.getfield 85, 3) := by decide +kernel
theorem dXM_winner_12 : decode cXM_winner 12 = .ok (.if_icmp .ge 88, 3) := by decide +kernel
theorem dXM_winner_15 : decode cXM_winner 15 = .ok (.bipush 7, 2) := by decide +kernel
theorem dXM_winner_17 : decode cXM_winner 17 = .ok (.iload 4, 2) := by decide +kernel
theorem dXM_winner_19 : decode cXM_winner 19 = .ok (.imul, 1) := by decide +kernel
theorem dXM_winner_20 : decode cXM_winner 20 = .ok (.istore 5, 2) := by decide +kernel
theorem dXM_winner_22 : decode cXM_winner 22 = .ok (.aload_n 0, 1) := by decide +kernel
theorem dXM_winner_23 : decode cXM_winner 23 = .ok (.getfield 19, 3) := by decide +kernel
theorem dXM_winner_26 : decode cXM_winner 26 = .ok (.iload 4, 2) := by decide +kernel
theorem dXM_winner_28 : decode cXM_winner 28 = .ok (.iaload, 1) := by decide +kernel
theorem dXM_winner_29 : decode cXM_winner 29 = .ok (.ifCond .le 65, 3) := by decide +kernel
theorem dXM_winner_32 : decode cXM_winner 32 = .ok (.aload_n 0, 1) := by decide +kernel
theorem dXM_winner_33 : decode cXM_winner 33 = .ok (.getfield 16, 3) := by decide +kernel
theorem dXM_winner_36 : decode cXM_winner 36 = .ok (.iload 5, 2) := by decide +kernel
theorem dXM_winner_38 : decode cXM_winner 38 = .ok (.invokestatic 38, 3) := by decide +kernel
theorem dXM_winner_41 : decode cXM_winner 41 = .ok (.ifCond .eq 53, 3) := by decide +kernel
theorem dXM_winner_44 : decode cXM_winner 44 = .ok (.aload_n 0, 1) := by decide +kernel
theorem dXM_winner_45 : decode cXM_winner 45 = .ok (.getfield 16, 3) := by decide +kernel
theorem dXM_winner_48 : decode cXM_winner 48 = .ok (.iload 5, 2) := by decide +kernel
theorem dXM_winner_50 : decode cXM_winner 50 = .ok (.iconst 1, 1) := by decide +kernel
theorem dXM_winner_51 : decode cXM_winner 51 = .ok (.iadd, 1) := by decide +kernel
theorem dXM_winner_52 : decode cXM_winner 52 = .ok (.iaload, 1) := by decide +kernel
theorem dXM_winner_53 : decode cXM_winner 53 = .ok (.iload_n 1, 1) := by decide +kernel
theorem dXM_winner_54 : decode cXM_winner 54 = .ok (.if_icmp .ne 40, 3) := by decide +kernel
theorem dXM_winner_57 : decode cXM_winner 57 = .ok (.aload_n 0, 1) := by decide +kernel
theorem dXM_winner_58 : decode cXM_winner 58 = .ok (.getfield 16, 3) := by decide +kernel
theorem dXM_winner_61 : decode cXM_winner 61 = .ok (.iload 5, 2) := by decide +kernel
theorem dXM_winner_63 : decode cXM_winner 63 = .ok (.iconst 2, 1) := by decide +kernel
theorem dXM_winner_64 : decode cXM_winner 64 = .ok (.iadd, 1) := by decide +kernel
theorem dXM_winner_65 : decode cXM_winner 65 = .ok (.iaload, 1) := by decide +kernel
theorem dXM_winner_66 : decode cXM_winner 66 = .ok (.iload_n 2, 1) := by decide +kernel
theorem dXM_winner_67 : decode cXM_winner 67 = .ok (.if_icmp .ne 27, 3) := by decide +kernel
theorem dXM_winner_70 : decode cXM_winner 70 = .ok (.iload_n 3, 1) := by decide +kernel
theorem dXM_winner_71 : decode cXM_winner 71 = .ok (.ifCond .lt 20, 3) := by decide +kernel
theorem dXM_winner_74 : decode cXM_winner 74 = .ok (.aload_n 0, 1) := by decide +kernel
theorem dXM_winner_75 : decode cXM_winner 75 = .ok (.getfield 16, 3) := by decide +kernel
theorem dXM_winner_78 : decode cXM_winner 78 = .ok (.iload 5, 2) := by decide +kernel
theorem dXM_winner_80 : decode cXM_winner 80 = .ok (.aload_n 0, 1) := by decide +kernel
theorem dXM_winner_81 : decode cXM_winner 81 = .ok (.getfield 16, 3) := by decide +kernel
theorem dXM_winner_84 : decode cXM_winner 84 = .ok (.iload_n 3, 1) := by decide +kernel
theorem dXM_winner_85 : decode cXM_winner 85 = .ok (.invokestatic 49, 3) := by decide +kernel
theorem dXM_winner_88 : decode cXM_winner 88 = .ok (.ifCond .eq 6, 3) := by decide +kernel
theorem dXM_winner_91 : decode cXM_winner 91 = .ok (.iload 5, 2) := by decide +kernel
theorem dXM_winner_93 : decode cXM_winner 93 = .ok (.istore_n 3, 1) := by decide +kernel
theorem dXM_winner_94 : decode cXM_winner 94 = .ok (.iinc 4 1, 3) := by decide +kernel
theorem dXM_winner_97 : decode cXM_winner 97 = .ok (.goto (-91), 3) := by decide +kernel
theorem dXM_winner_100 : decode cXM_winner 100 = .ok (.iconst 0, 1) := by decide +kernel
theorem dXM_winner_101 : decode cXM_winner 101 = .ok (.istore 4, 2) := by decide +kernel
theorem dXM_winner_103 : decode cXM_winner 103 = .ok (.iload 4, 2) := by decide +kernel
theorem dXM_winner_105 : decode cXM_winner 105 = .ok (.aload_n 0, 1) := by decide +kernel
theorem dXM_winner_106 : decode cXM_winner 106 = .ok (.getfield 42, 3) := by decide +kernel
theorem dXM_winner_109 : decode cXM_winner 109 = .ok (.if_icmp .ge 80, 3) := by decide +kernel
theorem dXM_winner_112 : decode cXM_winner 112 = .ok (.bipush 7, 2) := by decide +kernel
theorem dXM_winner_114 : decode cXM_winner 114 = .ok (.iload 4, 2) := by decide +kernel
theorem dXM_winner_116 : decode cXM_winner 116 = .ok (.imul, 1) := by decide +kernel
theorem dXM_winner_117 : decode cXM_winner 117 = .ok (.istore 5, 2) := by decide +kernel
theorem dXM_winner_119 : decode cXM_winner 119 = .ok (.aload_n 0, 1) := by decide +kernel
theorem dXM_winner_120 : decode cXM_winner 120 = .ok (.getfield 7, 3) := by decide +kernel
theorem dXM_winner_123 : decode cXM_winner 123 = .ok (.iload 5, 2) := by decide +kernel
theorem dXM_winner_125 : decode cXM_winner 125 = .ok (.invokestatic 38, 3) := by decide +kernel
theorem dXM_winner_128 : decode cXM_winner 128 = .ok (.ifCond .eq 55, 3) := by decide +kernel
theorem dXM_winner_131 : decode cXM_winner 131 = .ok (.aload_n 0, 1) := by decide +kernel
theorem dXM_winner_132 : decode cXM_winner 132 = .ok (.getfield 7, 3) := by decide +kernel
theorem dXM_winner_135 : decode cXM_winner 135 = .ok (.iload 5, 2) := by decide +kernel
theorem dXM_winner_137 : decode cXM_winner 137 = .ok (.iconst 1, 1) := by decide +kernel
theorem dXM_winner_138 : decode cXM_winner 138 = .ok (.iadd, 1) := by decide +kernel
theorem dXM_winner_139 : decode cXM_winner 139 = .ok (.iaload, 1) := by decide +kernel
theorem dXM_winner_140 : decode cXM_winner 140 = .ok (.iload_n 1, 1) := by decide +kernel
theorem dXM_winner_141 : decode cXM_winner 141 = .ok (.if_icmp .ne 42, 3) := by decide +kernel
theorem dXM_winner_144 : decode cXM_winner 144 = .ok (.aload_n 0, 1) := by decide +kernel
theorem dXM_winner_145 : decode cXM_winner 145 = .ok (.getfield 7, 3) := by decide +kernel
theorem dXM_winner_148 : decode cXM_winner 148 = .ok (.iload 5, 2) := by decide +kernel
theorem dXM_winner_150 : decode cXM_winner 150 = .ok (.iconst 2, 1) := by decide +kernel
theorem dXM_winner_151 : decode cXM_winner 151 = .ok (.iadd, 1) := by decide +kernel
theorem dXM_winner_152 : decode cXM_winner 152 = .ok (.iaload, 1) := by decide +kernel
theorem dXM_winner_153 : decode cXM_winner 153 = .ok (.iload_n 2, 1) := by decide +kernel
theorem dXM_winner_154 : decode cXM_winner 154 = .ok (.if_icmp .ne 29, 3) := by decide +kernel
theorem dXM_winner_157 : decode cXM_winner 157 = .ok (.iload_n 3, 1) := by decide +kernel
theorem dXM_winner_158 : decode cXM_winner 158 = .ok (.ifCond .lt 20, 3) := by decide +kernel
theorem dXM_winner_161 : decode cXM_winner 161 = .ok (.aload_n 0, 1) := by decide +kernel
theorem dXM_winner_162 : decode cXM_winner 162 = .ok (.getfield 7, 3) := by decide +kernel
theorem dXM_winner_165 : decode cXM_winner 165 = .ok (.iload 5, 2) := by decide +kernel
theorem dXM_winner_167 : decode cXM_winner 167 = .ok (.aload_n 0, 1) := by decide +kernel
theorem dXM_winner_168 : decode cXM_winner 168 = .ok (.getfield 16, 3) := by decide +kernel
theorem dXM_winner_171 : decode cXM_winner 171 = .ok (.iload_n 3, 1) := by decide +kernel
theorem dXM_winner_172 : decode cXM_winner 172 = .ok (.invokestatic 49, 3) := by decide +kernel
theorem dXM_winner_175 : decode cXM_winner 175 = .ok (.ifCond .eq 8, 3) := by decide +kernel
theorem dXM_winner_178 : decode cXM_winner 178 = .ok (.iconst (-1), 1) := by decide +kernel
theorem dXM_winner_179 : decode cXM_winner 179 = .ok (.iload 5, 2) := by decide +kernel
theorem dXM_winner_181 : decode cXM_winner 181 = .ok (.isub, 1) := by decide +kernel
theorem dXM_winner_182 : decode cXM_winner 182 = .ok (.ireturn, 1) := by decide +kernel
theorem dXM_winner_183 : decode cXM_winner 183 = .ok (.iinc 4 1, 3) := by decide +kernel
theorem dXM_winner_186 : decode cXM_winner 186 = .ok (.goto (-83), 3) := by decide +kernel
theorem dXM_winner_189 : decode cXM_winner 189 = .ok (.iload_n 3, 1) := by decide +kernel
theorem dXM_winner_190 : decode cXM_winner 190 = .ok (.ireturn, 1) := by decide +kernel
theorem dXM_stamp_0 : decode cXM_stamp 0 = .ok (.aload_n 0, 1) := by decide +kernel
theorem dXM_stamp_1 : decode cXM_stamp 1 = .ok (.iload_n 1, 1) := by decide +kernel
theorem dXM_stamp_2 : decode cXM_stamp 2 = .ok (.iload_n 2, 1) := by decide +kernel
theorem dXM_stamp_3 : decode cXM_stamp 3 = .ok (.invokevirtual 110, 3) := by decide +kernel
theorem dXM_stamp_6 : decode cXM_stamp 6 = .ok (.ifCond .eq 12, 3) := by decide +kernel
theorem dXM_stamp_9 : decode cXM_stamp 9 = .ok (.aload_n 0, 1) := by decide +kernel
theorem dXM_stamp_10 : decode cXM_stamp 10 = .ok (.getfield 28, 3) := by decide +kernel
theorem dXM_stamp_13 : decode cXM_stamp 13 = .ok (.iconst 4, 1) := by decide +kernel
theorem dXM_stamp_14 : decode cXM_stamp 14 = .ok (.iaload, 1) := by decide +kernel
theorem dXM_stamp_15 : decode cXM_stamp 15 = .ok (.goto 4, 3) := by decide +kernel
theorem dXM_stamp_18 : decode cXM_stamp 18 = .ok (.iconst (-1), 1) := by decide +kernel
theorem dXM_stamp_19 : decode cXM_stamp 19 = .ok (.ireturn, 1) := by decide +kernel
theorem dXM_next_0 : decode cXM_next 0 = .ok (.iload_n 2, 1) := by decide +kernel
theorem dXM_next_1 : decode cXM_next 1 = .ok (.ifCond .ge 7, 3) := by decide +kernel
theorem dXM_next_4 : decode cXM_next 4 = .ok (.iconst 0, 1) := by decide +kernel
theorem dXM_next_5 : decode cXM_next 5 = .ok (.goto 4, 3) := by decide +kernel
theorem dXM_next_8 : decode cXM_next 8 = .ok (.iload_n 2, 1) := by decide +kernel
theorem dXM_next_9 : decode cXM_next 9 = .ok (.istore_n 3, 1) := by decide +kernel
theorem dXM_next_10 : decode cXM_next 10 = .ok (.iload_n 3, 1) := by decide +kernel
theorem dXM_next_11 : decode cXM_next 11 = .ok (.bipush 7, 2) := by decide +kernel
theorem dXM_next_13 : decode cXM_next 13 = .ok (.if_icmp .gt 20, 3) := by decide +kernel
theorem dXM_next_16 : decode cXM_next 16 = .ok (.aload_n 0, 1) := by decide +kernel
theorem dXM_next_17 : decode cXM_next 17 = .ok (.iload_n 1, 1) := by decide +kernel
theorem dXM_next_18 : decode cXM_next 18 = .ok (.iload_n 3, 1) := by decide +kernel
theorem dXM_next_19 : decode cXM_next 19 = .ok (.invokevirtual 110, 3) := by decide +kernel
theorem dXM_next_22 : decode cXM_next 22 = .ok (.ifCond .eq 5, 3) := by decide +kernel
theorem dXM_next_25 : decode cXM_next 25 = .ok (.iload_n 3, 1) := by decide +kernel
theorem dXM_next_26 : decode cXM_next 26 = .ok (.ireturn, 1) := by decide +kernel
theorem dXM_next_27 : decode cXM_next 27 = .ok (.iinc 3 1, 3) := by decide +kernel
theorem dXM_next_30 : decode cXM_next 30 = .ok (.goto (-20), 3) := by decide +kernel
theorem dXM_next_33 : decode cXM_next 33 = .ok (.iconst (-1), 1) := by decide +kernel
theorem dXM_next_34 : decode cXM_next 34 = .ok (.ireturn, 1) := by decide +kernel
theorem dXM_nextRow_0 : decode cXM_nextRow 0 = .ok (.iload_n 1, 1) := by decide +kernel
theorem dXM_nextRow_1 : decode cXM_nextRow 1 = .ok (.ifCond .ge 7, 3) := by decide +kernel
theorem dXM_nextRow_4 : decode cXM_nextRow 4 = .ok (.iconst 0, 1) := by decide +kernel
theorem dXM_nextRow_5 : decode cXM_nextRow 5 = .ok (.goto 4, 3) := by decide +kernel
theorem dXM_nextRow_8 : decode cXM_nextRow 8 = .ok (.iload_n 1, 1) := by decide +kernel
theorem dXM_nextRow_9 : decode cXM_nextRow 9 = .ok (.istore_n 2, 1) := by decide +kernel
theorem dXM_nextRow_10 : decode cXM_nextRow 10 = .ok (.iload_n 2, 1) := by decide +kernel
theorem dXM_nextRow_11 : decode cXM_nextRow 11 = .ok (.bipush 15, 2) := by decide +kernel
theorem dXM_nextRow_13 : decode cXM_nextRow 13 = .ok (.if_icmp .gt 20, 3) := by decide +kernel
theorem dXM_nextRow_16 : decode cXM_nextRow 16 = .ok (.aload_n 0, 1) := by decide +kernel
theorem dXM_nextRow_17 : decode cXM_nextRow 17 = .ok (.iload_n 2, 1) := by decide +kernel
theorem dXM_nextRow_18 : decode cXM_nextRow 18 = .ok (.iconst 0, 1) := by decide +kernel
theorem dXM_nextRow_19 : decode cXM_nextRow 19 = .ok (.invokevirtual 113, 3) := by decide +kernel
theorem dXM_nextRow_22 : decode cXM_nextRow 22 = .ok (.ifCond .lt 5, 3) := by decide +kernel
theorem dXM_nextRow_25 : decode cXM_nextRow 25 = .ok (.iload_n 2, 1) := by decide +kernel
theorem dXM_nextRow_26 : decode cXM_nextRow 26 = .ok (.ireturn, 1) := by decide +kernel
theorem dXM_nextRow_27 : decode cXM_nextRow 27 = .ok (.iinc 2 1, 3) := by decide +kernel
theorem dXM_nextRow_30 : decode cXM_nextRow 30 = .ok (.goto (-20), 3) := by decide +kernel
theorem dXM_nextRow_33 : decode cXM_nextRow 33 = .ok (.iconst (-1), 1) := by decide +kernel
theorem dXM_nextRow_34 : decode cXM_nextRow 34 = .ok (.ireturn, 1) := by decide +kernel
theorem dXM_sync_0 : decode cXM_sync 0 = .ok (.aload_n 0, 1) := by decide +kernel
theorem dXM_sync_1 : decode cXM_sync 1 = .ok (.aload_n 0, 1) := by decide +kernel
theorem dXM_sync_2 : decode cXM_sync 2 = .ok (.getfield 56, 3) := by decide +kernel
theorem dXM_sync_5 : decode cXM_sync 5 = .ok (.putfield 91, 3) := by decide +kernel
theorem dXM_sync_8 : decode cXM_sync 8 = .ok (.aload_n 0, 1) := by decide +kernel
theorem dXM_sync_9 : decode cXM_sync 9 = .ok (.getfield 56, 3) := by decide +kernel
theorem dXM_sync_12 : decode cXM_sync 12 = .ok (.ireturn, 1) := by decide +kernel
theorem dXM_crash_0 : decode cXM_crash 0 = .ok (.aload_n 0, 1) := by decide +kernel
theorem dXM_crash_1 : decode cXM_crash 1 = .ok (.iconst 0, 1) := by decide +kernel
theorem dXM_crash_2 : decode cXM_crash 2 = .ok (.putfield 42, 3) := by decide +kernel
theorem dXM_crash_5 : decode cXM_crash 5 = .ok (.aload_n 0, 1) := by decide +kernel
theorem dXM_crash_6 : decode cXM_crash 6 = .ok (.aload_n 0, 1) := by decide +kernel
theorem dXM_crash_7 : decode cXM_crash 7 = .ok (.getfield 91, 3) := by decide +kernel
theorem dXM_crash_10 : decode cXM_crash 10 = .ok (.putfield 56, 3) := by decide +kernel
theorem dXM_crash_13 : decode cXM_crash 13 = .ok (.iconst 0, 1) := by decide +kernel
theorem dXM_crash_14 : decode cXM_crash 14 = .ok (.istore_n 1, 1) := by decide +kernel
theorem dXM_crash_15 : decode cXM_crash 15 = .ok (.iload_n 1, 1) := by decide +kernel
theorem dXM_crash_16 : decode cXM_crash 16 = .ok (.aload_n 0, 1) := by decide +kernel
theorem dXM_crash_17 : decode cXM_crash 17 = .ok (.getfield 56, 3) := by decide +kernel
theorem dXM_crash_20 : decode cXM_crash 20 = .ok (.if_icmp .ge 17, 3) := by decide +kernel
theorem dXM_crash_23 : decode cXM_crash 23 = .ok (.aload_n 0, 1) := by decide +kernel
theorem dXM_crash_24 : decode cXM_crash 24 = .ok (.bipush 7, 2) := by decide +kernel
theorem dXM_crash_26 : decode cXM_crash 26 = .ok (.iload_n 1, 1) := by decide +kernel
theorem dXM_crash_27 : decode cXM_crash 27 = .ok (.imul, 1) := by decide +kernel
theorem dXM_crash_28 : decode cXM_crash 28 = .ok (.invokevirtual 59, 3) := by decide +kernel
theorem dXM_crash_31 : decode cXM_crash 31 = .ok (.iinc 1 1, 3) := by decide +kernel
theorem dXM_crash_34 : decode cXM_crash 34 = .ok (.goto (-19), 3) := by decide +kernel
theorem dXM_crash_37 : decode cXM_crash 37 = .ok (.aload_n 0, 1) := by decide +kernel
theorem dXM_crash_38 : decode cXM_crash 38 = .ok (.getfield 56, 3) := by decide +kernel
theorem dXM_crash_41 : decode cXM_crash 41 = .ok (.ireturn, 1) := by decide +kernel
theorem dXM_tick_0 : decode cXM_tick 0 = .ok (.aload_n 0, 1) := by decide +kernel
theorem dXM_tick_1 : decode cXM_tick 1 = .ok (.iload_n 1, 1) := by decide +kernel
theorem dXM_tick_2 : decode cXM_tick 2 = .ok (.ifCond .lt 18, 3) := by decide +kernel
theorem dXM_tick_5 : decode cXM_tick 5 = .ok (.iload_n 1, 1) := by decide +kernel
theorem dXM_tick_6 : decode cXM_tick 6 = .ok (.bipush 100, 2) := by decide +kernel
theorem dXM_tick_8 : decode cXM_tick 8 = .ok (.if_icmp .gt 12, 3) := by decide +kernel
theorem dXM_tick_11 : decode cXM_tick 11 = .ok (.aload_n 0, 1) := by decide +kernel
theorem dXM_tick_12 : decode cXM_tick 12 = .ok (.getfield 75, 3) := by decide +kernel
theorem dXM_tick_15 : decode cXM_tick 15 = .ok (.iload_n 1, 1) := by decide +kernel
theorem dXM_tick_16 : decode cXM_tick 16 = .ok (.iadd, 1) := by decide +kernel
theorem dXM_tick_17 : decode cXM_tick 17 = .ok (.goto 7, 3) := by decide +kernel
theorem dXM_tick_20 : decode cXM_tick 20 = .ok (.aload_n 0, 1) := by decide +kernel
theorem dXM_tick_21 : decode cXM_tick 21 = .ok (.getfield 75, 3) := by decide +kernel
theorem dXM_tick_24 : decode cXM_tick 24 = .ok (.putfield 75, 3) := by decide +kernel
theorem dXM_tick_27 : decode cXM_tick 27 = .ok (.aload_n 0, 1) := by decide +kernel
theorem dXM_tick_28 : decode cXM_tick 28 = .ok (.getfield 75, 3) := by decide +kernel
theorem dXM_tick_31 : decode cXM_tick 31 = .ok (.ireturn, 1) := by decide +kernel
theorem dXM_count_0 : decode cXM_count 0 = .ok (.iload_n 1, 1) := by decide +kernel
theorem dXM_count_1 : decode cXM_count 1 = .ok (.ifCond .ne 10, 3) := by decide +kernel
theorem dXM_count_4 : decode cXM_count 4 = .ok (.aload_n 0, 1) := by decide +kernel
theorem dXM_count_5 : decode cXM_count 5 = .ok (.getfield 42, 3) := by decide +kernel
theorem dXM_count_8 : decode cXM_count 8 = .ok (.goto 40, 3) := by decide +kernel
theorem dXM_count_11 : decode cXM_count 11 = .ok (.iload_n 1, 1) := by decide +kernel
theorem dXM_count_12 : decode cXM_count 12 = .ok (.iconst 1, 1) := by decide +kernel
theorem dXM_count_13 : decode cXM_count 13 = .ok (.if_icmp .ne 10, 3) := by decide +kernel
theorem dXM_count_16 : decode cXM_count 16 = .ok (.aload_n 0, 1) := by decide +kernel
theorem dXM_count_17 : decode cXM_count 17 = .ok (.getfield 88, 3) := by decide +kernel
theorem dXM_count_20 : decode cXM_count 20 = .ok (.goto 28, 3) := by decide +kernel
theorem dXM_count_23 : decode cXM_count 23 = .ok (.iload_n 1, 1) := by decide +kernel
theorem dXM_count_24 : decode cXM_count 24 = .ok (.iconst 2, 1) := by decide +kernel
theorem dXM_count_25 : decode cXM_count 25 = .ok (.if_icmp .ne 10, 3) := by decide +kernel
theorem dXM_count_28 : decode cXM_count 28 = .ok (.aload_n 0, 1) := by decide +kernel
theorem dXM_count_29 : decode cXM_count 29 = .ok (.getfield 56, 3) := by decide +kernel
theorem dXM_count_32 : decode cXM_count 32 = .ok (.goto 16, 3) := by decide +kernel
theorem dXM_count_35 : decode cXM_count 35 = .ok (.iload_n 1, 1) := by decide +kernel
theorem dXM_count_36 : decode cXM_count 36 = .ok (.iconst 3, 1) := by decide +kernel
theorem dXM_count_37 : decode cXM_count 37 = .ok (.if_icmp .ne 10, 3) := by decide +kernel
theorem dXM_count_40 : decode cXM_count 40 = .ok (.aload_n 0, 1) := by decide +kernel
theorem dXM_count_41 : decode cXM_count 41 = .ok (.getfield 91, 3) := by decide +kernel
theorem dXM_count_44 : decode cXM_count 44 = .ok (.goto 4, 3) := by decide +kernel
theorem dXM_count_47 : decode cXM_count 47 = .ok (.iconst (-1), 1) := by decide +kernel
theorem dXM_count_48 : decode cXM_count 48 = .ok (.ireturn, 1) := by decide +kernel
