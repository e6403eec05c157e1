theorem dXS_init_0 : decode cXS_init 0 = .ok (.aload_n 0, 1) := by decide +kernel
theorem dXS_init_1 : decode cXS_init 1 = .ok (.invokespecial 3, 3) := by decide +kernel
theorem dXS_init_4 : decode cXS_init 4 = .ok (.aload_n 0, 1) := by decide +kernel
theorem dXS_init_5 : decode cXS_init 5 = .ok (.iconst 2, 1) := by decide +kernel
theorem dXS_init_6 : decode cXS_init 6 = .ok (.bipush 20, 2) := by decide +kernel
theorem dXS_init_8 : decode cXS_init 8 = .ok (.iload_n 1, 1) := by decide +kernel
theorem dXS_init_9 : decode cXS_init 9 = .ok (.invokestatic 9, 3) := by decide +kernel
theorem dXS_init_12 : decode cXS_init 12 = .ok (.invokestatic 15, 3) := by decide +kernel
theorem dXS_init_15 : decode cXS_init 15 = .ok (.putfield 18, 3) := by decide +kernel
theorem dXS_init_18 : decode cXS_init 18 = .ok (.aload_n 0, 1) := by decide +kernel
theorem dXS_init_19 : decode cXS_init 19 = .ok (.iconst 0, 1) := by decide +kernel
theorem dXS_init_20 : decode cXS_init 20 = .ok (.bipush 50, 2) := by decide +kernel
theorem dXS_init_22 : decode cXS_init 22 = .ok (.iload_n 2, 1) := by decide +kernel
theorem dXS_init_23 : decode cXS_init 23 = .ok (.invokestatic 9, 3) := by decide +kernel
theorem dXS_init_26 : decode cXS_init 26 = .ok (.invokestatic 15, 3) := by decide +kernel
theorem dXS_init_29 : decode cXS_init 29 = .ok (.putfield 22, 3) := by decide +kernel
theorem dXS_init_32 : decode cXS_init 32 = .ok (.aload_n 0, 1) := by decide +kernel
theorem dXS_init_33 : decode cXS_init 33 = .ok (.sipush 512, 3) := by decide +kernel
theorem dXS_init_36 : decode cXS_init 36 = .ok (.anewarray 25, 3) := by decide +kernel
theorem dXS_init_39 : decode cXS_init 39 = .ok (.putfield 27, 3) := by decide +kernel
theorem dXS_init_42 : decode cXS_init 42 = .ok (.aload_n 0, 1) := by decide +kernel
theorem dXS_init_43 : decode cXS_init 43 = .ok (.new 31, 3) := by decide +kernel
theorem dXS_init_46 : decode cXS_init 46 = .ok (.dup, 1) := by decide +kernel
theorem dXS_init_47 : decode cXS_init 47 = .ok (.invokespecial 33, 3) := by decide +kernel
theorem dXS_init_50 : decode cXS_init 50 = .ok (.putfield 34, 3) := by decide +kernel
theorem dXS_init_53 : decode cXS_init 53 = .ok (.aload_n 0, 1) := by decide +kernel
theorem dXS_init_54 : decode cXS_init 54 = .ok (.new 38, 3) := by decide +kernel
theorem dXS_init_57 : decode cXS_init 57 = .ok (.dup, 1) := by decide +kernel
theorem dXS_init_58 : decode cXS_init 58 = .ok (.iconst 0, 1) := by decide +kernel
theorem dXS_init_59 : decode cXS_init 59 = .ok (.invokespecial 40, 3) := by decide +kernel
theorem dXS_init_62 : decode cXS_init 62 = .ok (.putfield 43, 3) := by decide +kernel
theorem dXS_init_65 : decode cXS_init 65 = .ok (.aload_n 0, 1) := by decide +kernel
theorem dXS_init_66 : decode cXS_init 66 = .ok (.iconst 0, 1) := by decide +kernel
theorem dXS_init_67 : decode cXS_init 67 = .ok (.putfield 47, 3) := by decide +kernel
theorem dXS_init_70 : decode cXS_init 70 = .ok (.aload_n 0, 1) := by decide +kernel
theorem dXS_init_71 : decode cXS_init 71 = .ok (.iconst 0, 1) := by decide +kernel
theorem dXS_init_72 : decode cXS_init 72 = .ok (.putfield 50, 3) := by decide +kernel
theorem dXS_init_75 : decode cXS_init 75 = .ok (.aload_n 0, 1) := by decide +kernel
theorem dXS_init_76 : decode cXS_init 76 = .ok (.iconst 0, 1) := by decide +kernel
theorem dXS_init_77 : decode cXS_init 77 = .ok (.putfield 53, 3) := by decide +kernel
theorem dXS_init_80 : decode cXS_init 80 = .ok (.return_, 1) := by decide +kernel
theorem dXA_init_0 : decode cXA_init 0 = .ok (.aload_n 0, 1) := by decide +kernel
theorem dXA_init_1 : decode cXA_init 1 = .ok (.invokespecial 1, 3) := by decide +kernel
theorem dXA_init_4 : decode cXA_init 4 = .ok (.aload_n 0, 1) := by decide +kernel
theorem dXA_init_5 : decode cXA_init 5 = .ok (.getstatic 39, 3) := by decide +kernel
theorem dXA_init_8 : decode cXA_init 8 = .ok (.putfield 9, 3) := by decide +kernel
theorem dXA_init_11 : decode cXA_init 11 = .ok (.return_, 1) := by decide +kernel
theorem dXB_init_0 : decode cXB_init 0 = .ok (.aload_n 0, 1) := by decide +kernel
theorem dXB_init_1 : decode cXB_init 1 = .ok (.invokespecial 1, 3) := by decide +kernel
theorem dXB_init_4 : decode cXB_init 4 = .ok (.aload_n 0, 1) := by decide +kernel
theorem dXB_init_5 : decode cXB_init 5 = .ok (.iconst 0, 1) := by decide +kernel
theorem dXB_init_6 : decode cXB_init 6 = .ok (.putfield 7, 3) := by decide +kernel
theorem dXB_init_9 : decode cXB_init 9 = .ok (.return_, 1) := by decide +kernel
theorem dXC_init_0 : decode cXC_init 0 = .ok (.aload_n 0, 1) := by decide +kernel
theorem dXC_init_1 : decode cXC_init 1 = .ok (.invokespecial 1, 3) := by decide +kernel
theorem dXC_init_4 : decode cXC_init 4 = .ok (.return_, 1) := by decide +kernel
theorem dXT_init_0 : decode cXT_init 0 = .ok (.aload_n 0, 1) := by decide +kernel
theorem dXT_init_1 : decode cXT_init 1 = .ok (.invokespecial 3, 3) := by decide +kernel
theorem dXT_init_4 : decode cXT_init 4 = .ok (.aload_n 0, 1) := by decide +kernel
theorem dXT_init_5 : decode cXT_init 5 = .ok (.iload_n 1, 1) := by decide +kernel
theorem dXT_init_6 : decode cXT_init 6 = .ok (.putfield 9, 3) := by decide +kernel
theorem dXT_init_9 : decode cXT_init 9 = .ok (.aload_n 0, 1) := by decide +kernel
theorem dXT_init_10 : decode cXT_init 10 = .ok (.sipush 704, 3) := by decide +kernel
theorem dXT_init_13 : decode cXT_init 13 = .ok (.anewarray 15, 3) := by decide +kernel
theorem dXT_init_16 : decode cXT_init 16 = .ok (.putfield 17, 3) := by decide +kernel
theorem dXT_init_19 : decode cXT_init 19 = .ok (.aload_n 0, 1) := by decide +kernel
theorem dXT_init_20 : decode cXT_init 20 = .ok (.iconst 0, 1) := by decide +kernel
theorem dXT_init_21 : decode cXT_init 21 = .ok (.putfield 21, 3) := by decide +kernel
theorem dXT_init_24 : decode cXT_init 24 = .ok (.aload_n 0, 1) := by decide +kernel
theorem dXT_init_25 : decode cXT_init 25 = .ok (.iconst 0, 1) := by decide +kernel
theorem dXT_init_26 : decode cXT_init 26 = .ok (.putfield 24, 3) := by decide +kernel
theorem dXT_init_29 : decode cXT_init 29 = .ok (.return_, 1) := by decide +kernel
theorem dXS_put_0 : decode cXS_put 0 = .ok (.iload_n 1, 1) := by decide +kernel
theorem dXS_put_1 : decode cXS_put 1 = .ok (.iload_n 2, 1) := by decide +kernel
theorem dXS_put_2 : decode cXS_put 2 = .ok (.invokestatic 56, 3) := by decide +kernel
theorem dXS_put_5 : decode cXS_put 5 = .ok (.ifCond .eq 22, 3) := by decide +kernel
theorem dXS_put_8 : decode cXS_put 8 = .ok (.iload_n 3, 1) := by decide +kernel
theorem dXS_put_9 : decode cXS_put 9 = .ok (.invokestatic 60, 3) := by decide +kernel
theorem dXS_put_12 : decode cXS_put 12 = .ok (.ifCond .eq 15, 3) := by decide +kernel
theorem dXS_put_15 : decode cXS_put 15 = .ok (.iload 5, 2) := by decide +kernel
theorem dXS_put_17 : decode cXS_put 17 = .ok (.ifCond .lt 10, 3) := by decide +kernel
theorem dXS_put_20 : decode cXS_put 20 = .ok (.iload 5, 2) := by decide +kernel
theorem dXS_put_22 : decode cXS_put 22 = .ok (.bipush 100, 2) := by decide +kernel
theorem dXS_put_24 : decode cXS_put 24 = .ok (.if_icmp .le 5, 3) := by decide +kernel
theorem dXS_put_27 : decode cXS_put 27 = .ok (.iconst 0, 1) := by decide +kernel
theorem dXS_put_28 : decode cXS_put 28 = .ok (.ireturn, 1) := by decide +kernel
theorem dXS_put_29 : decode cXS_put 29 = .ok (.iload 5, 2) := by decide +kernel
theorem dXS_put_31 : decode cXS_put 31 = .ok (.ifCond .ne 8, 3) := by decide +kernel
theorem dXS_put_34 : decode cXS_put 34 = .ok (.ldc 64, 2) := by decide +kernel
theorem dXS_put_36 : decode cXS_put 36 = .ok (.goto 10, 3) := by decide +kernel
theorem dXS_put_39 : decode cXS_put 39 = .ok (.aload_n 0, 1) := by decide +kernel
theorem dXS_put_40 : decode cXS_put 40 = .ok (.getfield 53, 3) := by decide +kernel
theorem dXS_put_43 : decode cXS_put 43 = .ok (.iload 5, 2) := by decide +kernel
theorem dXS_put_45 : decode cXS_put 45 = .ok (.iadd, 1) := by decide +kernel
theorem dXS_put_46 : decode cXS_put 46 = .ok (.istore 6, 2) := by decide +kernel
theorem dXS_put_48 : decode cXS_put 48 = .ok (.aload_n 0, 1) := by decide +kernel
theorem dXS_put_49 : decode cXS_put 49 = .ok (.new 25, 3) := by decide +kernel
theorem dXS_put_52 : decode cXS_put 52 = .ok (.dup, 1) := by decide +kernel
theorem dXS_put_53 : decode cXS_put 53 = .ok (.iconst 0, 1) := by decide +kernel
theorem dXS_put_54 : decode cXS_put 54 = .ok (.iload_n 1, 1) := by decide +kernel
theorem dXS_put_55 : decode cXS_put 55 = .ok (.iload_n 2, 1) := by decide +kernel
theorem dXS_put_56 : decode cXS_put 56 = .ok (.invokestatic 65, 3) := by decide +kernel
theorem dXS_put_59 : decode cXS_put 59 = .ok (.iload_n 3, 1) := by decide +kernel
theorem dXS_put_60 : decode cXS_put 60 = .ok (.iload 4, 2) := by decide +kernel
theorem dXS_put_62 : decode cXS_put 62 = .ok (.iload 6, 2) := by decide +kernel
theorem dXS_put_64 : decode cXS_put 64 = .ok (.invokespecial 68, 3) := by decide +kernel
theorem dXS_put_67 : decode cXS_put 67 = .ok (.invokevirtual 71, 3) := by decide +kernel
theorem dXS_put_70 : decode cXS_put 70 = .ok (.ireturn, 1) := by decide +kernel
theorem dXS_isPlace_0 : decode cXS_isPlace 0 = .ok (.iload_n 0, 1) := by decide +kernel
theorem dXS_isPlace_1 : decode cXS_isPlace 1 = .ok (.ifCond .lt 23, 3) := by decide +kernel
theorem dXS_isPlace_4 : decode cXS_isPlace 4 = .ok (.iload_n 0, 1) := by decide +kernel
theorem dXS_isPlace_5 : decode cXS_isPlace 5 = .ok (.bipush 16, 2) := by decide +kernel
theorem dXS_isPlace_7 : decode cXS_isPlace 7 = .ok (.if_icmp .ge 17, 3) := by decide +kernel
theorem dXS_isPlace_10 : decode cXS_isPlace 10 = .ok (.iload_n 1, 1) := by decide +kernel
theorem dXS_isPlace_11 : decode cXS_isPlace 11 = .ok (.ifCond .lt 13, 3) := by decide +kernel
theorem dXS_isPlace_14 : decode cXS_isPlace 14 = .ok (.iload_n 1, 1) := by decide +kernel
theorem dXS_isPlace_15 : decode cXS_isPlace 15 = .ok (.bipush 8, 2) := by decide +kernel
theorem dXS_isPlace_17 : decode cXS_isPlace 17 = .ok (.if_icmp .ge 7, 3) := by decide +kernel
theorem dXS_isPlace_20 : decode cXS_isPlace 20 = .ok (.iconst 1, 1) := by decide +kernel
theorem dXS_isPlace_21 : decode cXS_isPlace 21 = .ok (.goto 4, 3) := by decide +kernel
theorem dXS_isPlace_24 : decode cXS_isPlace 24 = .ok (.iconst 0, 1) := by decide +kernel
theorem dXS_isPlace_25 : decode cXS_isPlace 25 = .ok (.ireturn, 1) := by decide +kernel
theorem dXS_isStamp_0 : decode cXS_isStamp 0 = .ok (.iload_n 0, 1) := by decide +kernel
theorem dXS_isStamp_1 : decode cXS_isStamp 1 = .ok (.ifCond .lt 14, 3) := by decide +kernel
theorem dXS_isStamp_4 : decode cXS_isStamp 4 = .ok (.iload_n 0, 1) := by decide +kernel
theorem dXS_isStamp_5 : decode cXS_isStamp 5 = .ok (.sipush 9999, 3) := by decide +kernel
theorem dXS_isStamp_8 : decode cXS_isStamp 8 = .ok (.if_icmp .gt 7, 3) := by decide +kernel
theorem dXS_isStamp_11 : decode cXS_isStamp 11 = .ok (.iconst 1, 1) := by decide +kernel
theorem dXS_isStamp_12 : decode cXS_isStamp 12 = .ok (.goto 4, 3) := by decide +kernel
theorem dXS_isStamp_15 : decode cXS_isStamp 15 = .ok (.iconst 0, 1) := by decide +kernel
theorem dXS_isStamp_16 : decode cXS_isStamp 16 = .ok (.ireturn, 1) := by decide +kernel
theorem dXS_pointSlot_0 : decode cXS_pointSlot 0 = .ok (.iload_n 0, 1) := by decide +kernel
theorem dXS_pointSlot_1 : decode cXS_pointSlot 1 = .ok (.bipush 8, 2) := by decide +kernel
theorem dXS_pointSlot_3 : decode cXS_pointSlot 3 = .ok (.imul, 1) := by decide +kernel
theorem dXS_pointSlot_4 : decode cXS_pointSlot 4 = .ok (.iload_n 1, 1) := by decide +kernel
theorem dXS_pointSlot_5 : decode cXS_pointSlot 5 = .ok (.iadd, 1) := by decide +kernel
theorem dXS_pointSlot_6 : decode cXS_pointSlot 6 = .ok (.ireturn, 1) := by decide +kernel
theorem dXE_init_0 : decode cXE_init 0 = .ok (.aload_n 0, 1) := by decide +kernel
theorem dXE_init_1 : decode cXE_init 1 = .ok (.invokespecial 1, 3) := by decide +kernel
theorem dXE_init_4 : decode cXE_init 4 = .ok (.aload_n 0, 1) := by decide +kernel
theorem dXE_init_5 : decode cXE_init 5 = .ok (.iload_n 1, 1) := by decide +kernel
theorem dXE_init_6 : decode cXE_init 6 = .ok (.putfield 7, 3) := by decide +kernel
theorem dXE_init_9 : decode cXE_init 9 = .ok (.aload_n 0, 1) := by decide +kernel
theorem dXE_init_10 : decode cXE_init 10 = .ok (.iload_n 2, 1) := by decide +kernel
theorem dXE_init_11 : decode cXE_init 11 = .ok (.putfield 13, 3) := by decide +kernel
theorem dXE_init_14 : decode cXE_init 14 = .ok (.aload_n 0, 1) := by decide +kernel
theorem dXE_init_15 : decode cXE_init 15 = .ok (.iload_n 3, 1) := by decide +kernel
theorem dXE_init_16 : decode cXE_init 16 = .ok (.putfield 16, 3) := by decide +kernel
theorem dXE_init_19 : decode cXE_init 19 = .ok (.aload_n 0, 1) := by decide +kernel
theorem dXE_init_20 : decode cXE_init 20 = .ok (.iload 4, 2) := by decide +kernel
theorem dXE_init_22 : decode cXE_init 22 = .ok (.putfield 19, 3) := by decide +kernel
theorem dXE_init_25 : decode cXE_init 25 = .ok (.aload_n 0, 1) := by decide +kernel
theorem dXE_init_26 : decode cXE_init 26 = .ok (.iload 5, 2) := by decide +kernel
theorem dXE_init_28 : decode cXE_init 28 = .ok (.putfield 22, 3) := by decide +kernel
theorem dXE_init_31 : decode cXE_init 31 = .ok (.return_, 1) := by decide +kernel
theorem dXS_addEntry_0 : decode cXS_addEntry 0 = .ok (.aload_n 0, 1) := by decide +kernel
theorem dXS_addEntry_1 : decode cXS_addEntry 1 = .ok (.getfield 47, 3) := by decide +kernel
theorem dXS_addEntry_4 : decode cXS_addEntry 4 = .ok (.sipush 512, 3) := by decide +kernel
theorem dXS_addEntry_7 : decode cXS_addEntry 7 = .ok (.if_icmp .lt 5, 3) := by decide +kernel
theorem dXS_addEntry_10 : decode cXS_addEntry 10 = .ok (.iconst 0, 1) := by decide +kernel
theorem dXS_addEntry_11 : decode cXS_addEntry 11 = .ok (.ireturn, 1) := by decide +kernel
theorem dXS_addEntry_12 : decode cXS_addEntry 12 = .ok (.aload_n 0, 1) := by decide +kernel
theorem dXS_addEntry_13 : decode cXS_addEntry 13 = .ok (.getfield 27, 3) := by decide +kernel
theorem dXS_addEntry_16 : decode cXS_addEntry 16 = .ok (.aload_n 0, 1) := by decide +kernel
theorem dXS_addEntry_17 : decode cXS_addEntry 17 = .ok (.getfield 47, 3) := by decide +kernel
theorem dXS_addEntry_20 : decode cXS_addEntry 20 = .ok (.aload_n 1, 1) := by decide +kernel
theorem dXS_addEntry_21 : decode cXS_addEntry 21 = .ok (.aastore, 1) := by decide +kernel
theorem dXS_addEntry_22 : decode cXS_addEntry 22 = .ok (.aload_n 0, 1) := by decide +kernel
theorem dXS_addEntry_23 : decode cXS_addEntry 23 = .ok (.dup, 1) := by decide +kernel
theorem dXS_addEntry_24 : decode cXS_addEntry 24 = .ok (.getfield 47, 3) := by decide +kernel
theorem dXS_addEntry_27 : decode cXS_addEntry 27 = .ok (.iconst 1, 1) := by decide +kernel
theorem dXS_addEntry_28 : decode cXS_addEntry 28 = .ok (.iadd, 1) := by decide +kernel
theorem dXS_addEntry_29 : decode cXS_addEntry 29 = .ok (.putfield 47, 3) := by decide +kernel
theorem dXS_addEntry_32 : decode cXS_addEntry 32 = .ok (.aload_n 0, 1) := by decide +kernel
theorem dXS_addEntry_33 : decode cXS_addEntry 33 = .ok (.getfield 43, 3) := by decide +kernel
theorem dXS_addEntry_36 : decode cXS_addEntry 36 = .ok (.aload_n 1, 1) := by decide +kernel
theorem dXS_addEntry_37 : decode cXS_addEntry 37 = .ok (.invokevirtual 113, 3) := by decide +kernel
theorem dXS_addEntry_40 : decode cXS_addEntry 40 = .ok (.aload_n 0, 1) := by decide +kernel
theorem dXS_addEntry_41 : decode cXS_addEntry 41 = .ok (.getfield 43, 3) := by decide +kernel
theorem dXS_addEntry_44 : decode cXS_addEntry 44 = .ok (.getfield 92, 3) := by decide +kernel
theorem dXS_addEntry_47 : decode cXS_addEntry 47 = .ok (.aload_n 0, 1) := by decide +kernel
theorem dXS_addEntry_48 : decode cXS_addEntry 48 = .ok (.getfield 18, 3) := by decide +kernel
theorem dXS_addEntry_51 : decode cXS_addEntry 51 = .ok (.if_icmp .le 7, 3) := by decide +kernel
theorem dXS_addEntry_54 : decode cXS_addEntry 54 = .ok (.aload_n 0, 1) := by decide +kernel
theorem dXS_addEntry_55 : decode cXS_addEntry 55 = .ok (.invokevirtual 95, 3) := by decide +kernel
theorem dXS_addEntry_58 : decode cXS_addEntry 58 = .ok (.iconst 1, 1) := by decide +kernel
theorem dXS_addEntry_59 : decode cXS_addEntry 59 = .ok (.ireturn, 1) := by decide +kernel
theorem dXT_addWinner_0 : decode cXT_addWinner 0 = .ok (.aload_n 0, 1) := by decide +kernel
theorem dXT_addWinner_1 : decode cXT_addWinner 1 = .ok (.getfield 17, 3) := by decide +kernel
theorem dXT_addWinner_4 : decode cXT_addWinner 4 = .ok (.aload_n 1, 1) := by decide +kernel
theorem dXT_addWinner_5 : decode cXT_addWinner 5 = .ok (.getfield 31, 3) := by decide +kernel
theorem dXT_addWinner_8 : decode cXT_addWinner 8 = .ok (.aaload, 1) := by decide +kernel
theorem dXT_addWinner_9 : decode cXT_addWinner 9 = .ok (.astore_n 2, 1) := by decide +kernel
theorem dXT_addWinner_10 : decode cXT_addWinner 10 = .ok (.aload_n 2, 1) := by decide +kernel
theorem dXT_addWinner_11 : decode cXT_addWinner 11 = .ok (.ifnonnull 48, 3) := by decide +kernel
theorem dXT_addWinner_14 : decode cXT_addWinner 14 = .ok (.aload_n 0, 1) := by decide +kernel
theorem dXT_addWinner_15 : decode cXT_addWinner 15 = .ok (.getfield 17, 3) := by decide +kernel
theorem dXT_addWinner_18 : decode cXT_addWinner 18 = .ok (.aload_n 1, 1) := by decide +kernel
theorem dXT_addWinner_19 : decode cXT_addWinner 19 = .ok (.getfield 31, 3) := by decide +kernel
theorem dXT_addWinner_22 : decode cXT_addWinner 22 = .ok (.aload_n 1, 1) := by decide +kernel
theorem dXT_addWinner_23 : decode cXT_addWinner 23 = .ok (.aastore, 1) := by decide +kernel
theorem dXT_addWinner_24 : decode cXT_addWinner 24 = .ok (.aload_n 0, 1) := by decide +kernel
theorem dXT_addWinner_25 : decode cXT_addWinner 25 = .ok (.dup, 1) := by decide +kernel
theorem dXT_addWinner_26 : decode cXT_addWinner 26 = .ok (.getfield 21, 3) := by decide +kernel
theorem dXT_addWinner_29 : decode cXT_addWinner 29 = .ok (.iconst 1, 1) := by decide +kernel
theorem dXT_addWinner_30 : decode cXT_addWinner 30 = .ok (.iadd, 1) := by decide +kernel
theorem dXT_addWinner_31 : decode cXT_addWinner 31 = .ok (.putfield 21, 3) := by decide +kernel
theorem dXT_addWinner_34 : decode cXT_addWinner 34 = .ok (.aload_n 0, 1) := by decide +kernel
theorem dXT_addWinner_35 : decode cXT_addWinner 35 = .ok (.dup, 1) := by decide +kernel
theorem dXT_addWinner_36 : decode cXT_addWinner 36 = .ok (.getfield 24, 3) := by decide +kernel
theorem dXT_addWinner_39 : decode cXT_addWinner 39 = .ok (.aload_n 1, 1) := by decide +kernel
theorem dXT_addWinner_40 : decode cXT_addWinner 40 = .ok (.getfield 34, 3) := by decide +kernel
theorem dXT_addWinner_43 : decode cXT_addWinner 43 = .ok (.iconst 2, 1) := by decide +kernel
theorem dXT_addWinner_44 : decode cXT_addWinner 44 = .ok (.if_icmp .ne 7, 3) := by decide +kernel
theorem dXT_addWinner_47 : decode cXT_addWinner 47 = .ok (.iconst 1, 1) := by decide +kernel
theorem dXT_addWinner_48 : decode cXT_addWinner 48 = .ok (.goto 4, 3) := by decide +kernel
theorem dXT_addWinner_51 : decode cXT_addWinner 51 = .ok (.iconst 0, 1) := by decide +kernel
theorem dXT_addWinner_52 : decode cXT_addWinner 52 = .ok (.iadd, 1) := by decide +kernel
theorem dXT_addWinner_53 : decode cXT_addWinner 53 = .ok (.putfield 24, 3) := by decide +kernel
theorem dXT_addWinner_56 : decode cXT_addWinner 56 = .ok (.goto 21, 3) := by decide +kernel
theorem dXT_addWinner_59 : decode cXT_addWinner 59 = .ok (.aload_n 1, 1) := by decide +kernel
theorem dXT_addWinner_60 : decode cXT_addWinner 60 = .ok (.aload_n 2, 1) := by decide +kernel
theorem dXT_addWinner_61 : decode cXT_addWinner 61 = .ok (.invokevirtual 37, 3) := by decide +kernel
theorem dXT_addWinner_64 : decode cXT_addWinner 64 = .ok (.ifCond .eq 13, 3) := by decide +kernel
theorem dXT_addWinner_67 : decode cXT_addWinner 67 = .ok (.aload_n 0, 1) := by decide +kernel
theorem dXT_addWinner_68 : decode cXT_addWinner 68 = .ok (.getfield 17, 3) := by decide +kernel
theorem dXT_addWinner_71 : decode cXT_addWinner 71 = .ok (.aload_n 1, 1) := by decide +kernel
theorem dXT_addWinner_72 : decode cXT_addWinner 72 = .ok (.getfield 31, 3) := by decide +kernel
theorem dXT_addWinner_75 : decode cXT_addWinner 75 = .ok (.aload_n 1, 1) := by decide +kernel
theorem dXT_addWinner_76 : decode cXT_addWinner 76 = .ok (.aastore, 1) := by decide +kernel
theorem dXT_addWinner_77 : decode cXT_addWinner 77 = .ok (.return_, 1) := by decide +kernel
theorem dXE_winsOver_0 : decode cXE_winsOver 0 = .ok (.aload_n 0, 1) := by decide +kernel
theorem dXE_winsOver_1 : decode cXE_winsOver 1 = .ok (.getfield 16, 3) := by decide +kernel
theorem dXE_winsOver_4 : decode cXE_winsOver 4 = .ok (.aload_n 1, 1) := by decide +kernel
theorem dXE_winsOver_5 : decode cXE_winsOver 5 = .ok (.getfield 16, 3) := by decide +kernel
theorem dXE_winsOver_8 : decode cXE_winsOver 8 = .ok (.if_icmp .eq 20, 3) := by decide +kernel
theorem dXE_winsOver_11 : decode cXE_winsOver 11 = .ok (.aload_n 0, 1) := by decide +kernel
theorem dXE_winsOver_12 : decode cXE_winsOver 12 = .ok (.getfield 16, 3) := by decide +kernel
theorem dXE_winsOver_15 : decode cXE_winsOver 15 = .ok (.aload_n 1, 1) := by decide +kernel
theorem dXE_winsOver_16 : decode cXE_winsOver 16 = .ok (.getfield 16, 3) := by decide +kernel
theorem dXE_winsOver_19 : decode cXE_winsOver 19 = .ok (.if_icmp .le 7, 3) := by decide +kernel
theorem dXE_winsOver_22 : decode cXE_winsOver 22 = .ok (.iconst 1, 1) := by decide +kernel
theorem dXE_winsOver_23 : decode cXE_winsOver 23 = .ok (.goto 4, 3) := by decide +kernel
theorem dXE_winsOver_26 : decode cXE_winsOver 26 = .ok (.iconst 0, 1) := by decide +kernel
theorem dXE_winsOver_27 : decode cXE_winsOver 27 = .ok (.ireturn, 1) := by decide +kernel
theorem dXE_winsOver_28 : decode cXE_winsOver 28 = .ok (.aload_n 0, 1) := by decide +kernel
theorem dXE_winsOver_29 : decode cXE_winsOver 29 = .ok (.getfield 7, 3) := by decide +kernel
theorem dXE_winsOver_32 : decode cXE_winsOver 32 = .ok (.aload_n 1, 1) := by decide +kernel
theorem dXE_winsOver_33 : decode cXE_winsOver 33 = .ok (.getfield 7, 3) := by decide +kernel
theorem dXE_winsOver_36 : decode cXE_winsOver 36 = .ok (.if_icmp .eq 20, 3) := by decide +kernel
theorem dXE_winsOver_39 : decode cXE_winsOver 39 = .ok (.aload_n 0, 1) := by decide +kernel
theorem dXE_winsOver_40 : decode cXE_winsOver 40 = .ok (.getfield 7, 3) := by decide +kernel
theorem dXE_winsOver_43 : decode cXE_winsOver 43 = .ok (.aload_n 1, 1) := by decide +kernel
theorem dXE_winsOver_44 : decode cXE_winsOver 44 = .ok (.getfield 7, 3) := by decide +kernel
theorem dXE_winsOver_47 : decode cXE_winsOver 47 = .ok (.if_icmp .le 7, 3) := by decide +kernel
theorem dXE_winsOver_50 : decode cXE_winsOver 50 = .ok (.iconst 1, 1) := by decide +kernel
theorem dXE_winsOver_51 : decode cXE_winsOver 51 = .ok (.goto 4, 3) := by decide +kernel
theorem dXE_winsOver_54 : decode cXE_winsOver 54 = .ok (.iconst 0, 1) := by decide +kernel
theorem dXE_winsOver_55 : decode cXE_winsOver 55 = .ok (.ireturn, 1) := by decide +kernel
theorem dXE_winsOver_56 : decode cXE_winsOver 56 = .ok (.aload_n 0, 1) := by decide +kernel
theorem dXE_winsOver_57 : decode cXE_winsOver 57 = .ok (.getfield 19, 3) := by decide +kernel
theorem dXE_winsOver_60 : decode cXE_winsOver 60 = .ok (.aload_n 1, 1) := by decide +kernel
theorem dXE_winsOver_61 : decode cXE_winsOver 61 = .ok (.getfield 19, 3) := by decide +kernel
theorem dXE_winsOver_64 : decode cXE_winsOver 64 = .ok (.if_icmp .eq 20, 3) := by decide +kernel
theorem dXE_winsOver_67 : decode cXE_winsOver 67 = .ok (.aload_n 0, 1) := by decide +kernel
theorem dXE_winsOver_68 : decode cXE_winsOver 68 = .ok (.getfield 19, 3) := by decide +kernel
theorem dXE_winsOver_71 : decode cXE_winsOver 71 = .ok (.aload_n 1, 1) := by decide +kernel
theorem dXE_winsOver_72 : decode cXE_winsOver 72 = .ok (.getfield 19, 3) := by decide +kernel
theorem dXE_winsOver_75 : decode cXE_winsOver 75 = .ok (.if_icmp .le 7, 3) := by decide +kernel
theorem dXE_winsOver_78 : decode cXE_winsOver 78 = .ok (.iconst 1, 1) := by decide +kernel
theorem dXE_winsOver_79 : decode cXE_winsOver 79 = .ok (.goto 4, 3) := by decide +kernel
theorem dXE_winsOver_82 : decode cXE_winsOver 82 = .ok (.iconst 0, 1) := by decide +kernel
theorem dXE_winsOver_83 : decode cXE_winsOver 83 = .ok (.ireturn, 1) := by decide +kernel
theorem dXE_winsOver_84 : decode cXE_winsOver 84 = .ok (.aload_n 0, 1) := by decide +kernel
theorem dXE_winsOver_85 : decode cXE_winsOver 85 = .ok (.getfield 22, 3) := by decide +kernel
theorem dXE_winsOver_88 : decode cXE_winsOver 88 = .ok (.aload_n 1, 1) := by decide +kernel
theorem dXE_winsOver_89 : decode cXE_winsOver 89 = .ok (.getfield 22, 3) := by decide +kernel
theorem dXE_winsOver_92 : decode cXE_winsOver 92 = .ok (.if_icmp .le 7, 3) := by decide +kernel
theorem dXE_winsOver_95 : decode cXE_winsOver 95 = .ok (.iconst 1, 1) := by decide +kernel
theorem dXE_winsOver_96 : decode cXE_winsOver 96 = .ok (.goto 4, 3) := by decide +kernel
theorem dXE_winsOver_99 : decode cXE_winsOver 99 = .ok (.iconst 0, 1) := by decide +kernel
theorem dXE_winsOver_100 : decode cXE_winsOver 100 = .ok (.ireturn, 1) := by decide +kernel
theorem dXS_flushMemory_0 : decode cXS_flushMemory 0 = .ok (.aload_n 0, 1) := by decide +kernel
theorem dXS_flushMemory_1 : decode cXS_flushMemory 1 = .ok (.getfield 43, 3) := by decide +kernel
theorem dXS_flushMemory_4 : decode cXS_flushMemory 4 = .ok (.getfield 92, 3) := by decide +kernel
theorem dXS_flushMemory_7 : decode cXS_flushMemory 7 = .ok (.ifCond .ne 4, 3) := by decide +kernel
theorem dXS_flushMemory_10 : decode cXS_flushMemory 10 = .ok (.return_, 1) := by decide +kernel
theorem dXS_flushMemory_11 : decode cXS_flushMemory 11 = .ok (.aload_n 0, 1) := by decide +kernel
theorem dXS_flushMemory_12 : decode cXS_flushMemory 12 = .ok (.getfield 34, 3) := by decide +kernel
theorem dXS_flushMemory_15 : decode cXS_flushMemory 15 = .ok (.aload_n 0, 1) := by decide +kernel
theorem dXS_flushMemory_16 : decode cXS_flushMemory 16 = .ok (.getfield 43, 3) := by decide +kernel
theorem dXS_flushMemory_19 : decode cXS_flushMemory 19 = .ok (.invokevirtual 129, 3) := by decide +kernel
theorem dXS_flushMemory_22 : decode cXS_flushMemory 22 = .ok (.pop, 1) := by decide +kernel
theorem dXS_flushMemory_23 : decode cXS_flushMemory 23 = .ok (.aload_n 0, 1) := by decide +kernel
theorem dXS_flushMemory_24 : decode cXS_flushMemory 24 = .ok (.new 38, 3) := by decide +kernel
theorem dXS_flushMemory_27 : decode cXS_flushMemory 27 = .ok (.dup, 1) := by decide +kernel
theorem dXS_flushMemory_28 : decode cXS_flushMemory 28 = .ok (.iconst 0, 1) := by decide +kernel
theorem dXS_flushMemory_29 : decode cXS_flushMemory 29 = .ok (.invokespecial 40, 3) := by decide +kernel
theorem dXS_flushMemory_32 : decode cXS_flushMemory 32 = .ok (.putfield 43, 3) := by decide +kernel
theorem dXS_flushMemory_35 : decode cXS_flushMemory 35 = .ok (.aload_n 0, 1) := by decide +kernel
theorem dXS_flushMemory_36 : decode cXS_flushMemory 36 = .ok (.iconst 0, 1) := by decide +kernel
theorem dXS_flushMemory_37 : decode cXS_flushMemory 37 = .ok (.putfield 47, 3) := by decide +kernel
theorem dXS_flushMemory_40 : decode cXS_flushMemory 40 = .ok (.aload_n 0, 1) := by decide +kernel
theorem dXS_flushMemory_41 : decode cXS_flushMemory 41 = .ok (.iconst 0, 1) := by decide +kernel
theorem dXS_flushMemory_42 : decode cXS_flushMemory 42 = .ok (.putfield 50, 3) := by decide +kernel
theorem dXS_flushMemory_45 : decode cXS_flushMemory 45 = .ok (.aload_n 0, 1) := by decide +kernel
theorem dXS_flushMemory_46 : decode cXS_flushMemory 46 = .ok (.getfield 34, 3) := by decide +kernel
theorem dXS_flushMemory_49 : decode cXS_flushMemory 49 = .ok (.invokevirtual 117, 3) := by decide +kernel
theorem dXS_flushMemory_52 : decode cXS_flushMemory 52 = .ok (.istore_n 1, 1) := by decide +kernel
theorem dXS_flushMemory_53 : decode cXS_flushMemory 53 = .ok (.iload_n 1, 1) := by decide +kernel
theorem dXS_flushMemory_54 : decode cXS_flushMemory 54 = .ok (.ifCond .le 48, 3) := by decide +kernel
theorem dXS_flushMemory_57 : decode cXS_flushMemory 57 = .ok (.aload_n 0, 1) := by decide +kernel
theorem dXS_flushMemory_58 : decode cXS_flushMemory 58 = .ok (.invokevirtual 133, 3) := by decide +kernel
theorem dXS_flushMemory_61 : decode cXS_flushMemory 61 = .ok (.ifCond .eq 41, 3) := by decide +kernel
theorem dXS_flushMemory_64 : decode cXS_flushMemory 64 = .ok (.aload_n 0, 1) := by decide +kernel
theorem dXS_flushMemory_65 : decode cXS_flushMemory 65 = .ok (.getfield 34, 3) := by decide +kernel
theorem dXS_flushMemory_68 : decode cXS_flushMemory 68 = .ok (.invokevirtual 117, 3) := by decide +kernel
theorem dXS_flushMemory_71 : decode cXS_flushMemory 71 = .ok (.iconst 3, 1) := by decide +kernel
theorem dXS_flushMemory_72 : decode cXS_flushMemory 72 = .ok (.isub, 1) := by decide +kernel
theorem dXS_flushMemory_73 : decode cXS_flushMemory 73 = .ok (.istore_n 2, 1) := by decide +kernel
theorem dXS_flushMemory_74 : decode cXS_flushMemory 74 = .ok (.aload_n 0, 1) := by decide +kernel
theorem dXS_flushMemory_75 : decode cXS_flushMemory 75 = .ok (.iload_n 2, 1) := by decide +kernel
theorem dXS_flushMemory_76 : decode cXS_flushMemory 76 = .ok (.aload_n 0, 1) := by decide +kernel
theorem dXS_flushMemory_77 : decode cXS_flushMemory 77 = .ok (.getfield 34, 3) := by decide +kernel
theorem dXS_flushMemory_80 : decode cXS_flushMemory 80 = .ok (.iload_n 2, 1) := by decide +kernel
theorem dXS_flushMemory_81 : decode cXS_flushMemory 81 = .ok (.invokevirtual 119, 3) := by decide +kernel
theorem dXS_flushMemory_84 : decode cXS_flushMemory 84 = .ok (.checkcast 38, 3) := by decide +kernel
theorem dXS_flushMemory_87 : decode cXS_flushMemory 87 = .ok (.getfield 123, 3) := by decide +kernel
theorem dXS_flushMemory_90 : decode cXS_flushMemory 90 = .ok (.iconst 1, 1) := by decide +kernel
theorem dXS_flushMemory_91 : decode cXS_flushMemory 91 = .ok (.iadd, 1) := by decide +kernel
theorem dXS_flushMemory_92 : decode cXS_flushMemory 92 = .ok (.invokevirtual 106, 3) := by decide +kernel
theorem dXS_flushMemory_95 : decode cXS_flushMemory 95 = .ok (.pop, 1) := by decide +kernel
theorem dXS_flushMemory_96 : decode cXS_flushMemory 96 = .ok (.iinc 1 (-1), 3) := by decide +kernel
theorem dXS_flushMemory_99 : decode cXS_flushMemory 99 = .ok (.goto (-46), 3) := by decide +kernel
theorem dXS_flushMemory_102 : decode cXS_flushMemory 102 = .ok (.return_, 1) := by decide +kernel
theorem dXA_add_0 : decode cXA_add 0 = .ok (.aload_n 0, 1) := by decide +kernel
theorem dXA_add_1 : decode cXA_add 1 = .ok (.dup, 1) := by decide +kernel
theorem dXA_add_2 : decode cXA_add 2 = .ok (.getfield 63, 3) := by decide +kernel
theorem dXA_add_5 : decode cXA_add 5 = .ok (.iconst 1, 1) := by decide +kernel
theorem dXA_add_6 : decode cXA_add 6 = .ok (.iadd, 1) := by decide +kernel
theorem dXA_add_7 : decode cXA_add 7 = .ok (.putfield 63, 3) := by decide +kernel
theorem dXA_add_10 : decode cXA_add 10 = .ok (.aload_n 0, 1) := by decide +kernel
theorem dXA_add_11 : decode cXA_add 11 = .ok (.aload_n 1, 1) := by decide +kernel
theorem dXA_add_12 : decode cXA_add 12 = .ok (.aload_n 0, 1) := by decide +kernel
theorem dXA_add_13 : decode cXA_add 13 = .ok (.getfield 9, 3) := by decide +kernel
theorem dXA_add_16 : decode cXA_add 16 = .ok (.aload_n 0, 1) := by decide +kernel
theorem dXA_add_17 : decode cXA_add 17 = .ok (.getfield 48, 3) := by decide +kernel
theorem dXA_add_20 : decode cXA_add 20 = .ok (.invokevirtual 131, 3) := by decide +kernel
theorem dXA_add_23 : decode cXA_add 23 = .ok (.iconst 1, 1) := by decide +kernel
theorem dXA_add_24 : decode cXA_add 24 = .ok (.ireturn, 1) := by decide +kernel
theorem dXA_addp_0 : decode cXA_addp 0 = .ok (.iload_n 3, 1) := by decide +kernel
theorem dXA_addp_1 : decode cXA_addp 1 = .ok (.aload_n 2, 1) := by decide +kernel
theorem dXA_addp_2 : decode cXA_addp 2 = .ok (.arraylength, 1) := by decide +kernel
theorem dXA_addp_3 : decode cXA_addp 3 = .ok (.if_icmp .ne 8, 3) := by decide +kernel
theorem dXA_addp_6 : decode cXA_addp 6 = .ok (.aload_n 0, 1) := by decide +kernel
theorem dXA_addp_7 : decode cXA_addp 7 = .ok (.invokevirtual 129, 3) := by decide +kernel
theorem dXA_addp_10 : decode cXA_addp 10 = .ok (.astore_n 2, 1) := by decide +kernel
theorem dXA_addp_11 : decode cXA_addp 11 = .ok (.aload_n 2, 1) := by decide +kernel
theorem dXA_addp_12 : decode cXA_addp 12 = .ok (.iload_n 3, 1) := by decide +kernel
theorem dXA_addp_13 : decode cXA_addp 13 = .ok (.aload_n 1, 1) := by decide +kernel
theorem dXA_addp_14 : decode cXA_addp 14 = .ok (.aastore, 1) := by decide +kernel
theorem dXA_addp_15 : decode cXA_addp 15 = .ok (.aload_n 0, 1) := by decide +kernel
theorem dXA_addp_16 : decode cXA_addp 16 = .ok (.iload_n 3, 1) := by decide +kernel
theorem dXA_addp_17 : decode cXA_addp 17 = .ok (.iconst 1, 1) := by decide +kernel
theorem dXA_addp_18 : decode cXA_addp 18 = .ok (.iadd, 1) := by decide +kernel
theorem dXA_addp_19 : decode cXA_addp 19 = .ok (.putfield 48, 3) := by decide +kernel
theorem dXA_addp_22 : decode cXA_addp 22 = .ok (.return_, 1) := by decide +kernel
theorem dXA_grow0_0 : decode cXA_grow0 0 = .ok (.aload_n 0, 1) := by decide +kernel
theorem dXA_grow0_1 : decode cXA_grow0 1 = .ok (.aload_n 0, 1) := by decide +kernel
theorem dXA_grow0_2 : decode cXA_grow0 2 = .ok (.getfield 48, 3) := by decide +kernel
theorem dXA_grow0_5 : decode cXA_grow0 5 = .ok (.iconst 1, 1) := by decide +kernel
theorem dXA_grow0_6 : decode cXA_grow0 6 = .ok (.iadd, 1) := by decide +kernel
theorem dXA_grow0_7 : decode cXA_grow0 7 = .ok (.invokevirtual 69, 3) := by decide +kernel
theorem dXA_grow0_10 : decode cXA_grow0 10 = .ok (.areturn, 1) := by decide +kernel
theorem dXA_grow1_0 : decode cXA_grow1 0 = .ok (.aload_n 0, 1) := by decide +kernel
theorem dXA_grow1_1 : decode cXA_grow1 1 = .ok (.getfield 9, 3) := by decide +kernel
theorem dXA_grow1_4 : decode cXA_grow1 4 = .ok (.arraylength, 1) := by decide +kernel
theorem dXA_grow1_5 : decode cXA_grow1 5 = .ok (.istore_n 2, 1) := by decide +kernel
theorem dXA_grow1_6 : decode cXA_grow1 6 = .ok (.iload_n 2, 1) := by decide +kernel
theorem dXA_grow1_7 : decode cXA_grow1 7 = .ok (.ifCond .gt 13, 3) := by decide +kernel
theorem dXA_grow1_10 : decode cXA_grow1 10 = .ok (.aload_n 0, 1) := by decide +kernel
theorem dXA_grow1_11 : decode cXA_grow1 11 = .ok (.getfield 9, 3) := by decide +kernel
theorem dXA_grow1_14 : decode cXA_grow1 14 = .ok (.getstatic 39, 3) := by decide +kernel
theorem dXA_grow1_17 : decode cXA_grow1 17 = .ok (.if_acmp .eq 28, 3) := by decide +kernel
theorem dXA_grow1_20 : decode cXA_grow1 20 = .ok (.iload_n 2, 1) := by decide +kernel
theorem dXA_grow1_21 : decode cXA_grow1 21 = .ok (.iload_n 1, 1) := by decide +kernel
theorem dXA_grow1_22 : decode cXA_grow1 22 = .ok (.iload_n 2, 1) := by decide +kernel
theorem dXA_grow1_23 : decode cXA_grow1 23 = .ok (.isub, 1) := by decide +kernel
theorem dXA_grow1_24 : decode cXA_grow1 24 = .ok (.iload_n 2, 1) := by decide +kernel
theorem dXA_grow1_25 : decode cXA_grow1 25 = .ok (.iconst 1, 1) := by decide +kernel
theorem dXA_grow1_26 : decode cXA_grow1 26 = .ok (.ishr, 1) := by decide +kernel
theorem dXA_grow1_27 : decode cXA_grow1 27 = .ok (.invokestatic 73, 3) := by decide +kernel
theorem dXA_grow1_30 : decode cXA_grow1 30 = .ok (.istore_n 3, 1) := by decide +kernel
theorem dXA_grow1_31 : decode cXA_grow1 31 = .ok (.aload_n 0, 1) := by decide +kernel
theorem dXA_grow1_32 : decode cXA_grow1 32 = .ok (.aload_n 0, 1) := by decide +kernel
theorem dXA_grow1_33 : decode cXA_grow1 33 = .ok (.getfield 9, 3) := by decide +kernel
theorem dXA_grow1_36 : decode cXA_grow1 36 = .ok (.iload_n 3, 1) := by decide +kernel
theorem dXA_grow1_37 : decode cXA_grow1 37 = .ok (.invokestatic 66, 3) := by decide +kernel
theorem dXA_grow1_40 : decode cXA_grow1 40 = .ok (.dup_x1, 1) := by decide +kernel
theorem dXA_grow1_41 : decode cXA_grow1 41 = .ok (.putfield 9, 3) := by decide +kernel
theorem dXA_grow1_44 : decode cXA_grow1 44 = .ok (.areturn, 1) := by decide +kernel
theorem dXA_grow1_45 : decode cXA_grow1 45 = .ok (.aload_n 0, 1) := by decide +kernel
theorem dXA_grow1_46 : decode cXA_grow1 46 = .ok (.bipush 10, 2) := by decide +kernel
theorem dXA_grow1_48 : decode cXA_grow1 48 = .ok (.iload_n 1, 1) := by decide +kernel
theorem dXA_grow1_49 : decode cXA_grow1 49 = .ok (.invokestatic 79, 3) := by decide +kernel
theorem dXA_grow1_52 : decode cXA_grow1 52 = .ok (.anewarray 7, 3) := by decide +kernel
theorem dXA_grow1_55 : decode cXA_grow1 55 = .ok (.dup_x1, 1) := by decide +kernel
theorem dXA_grow1_56 : decode cXA_grow1 56 = .ok (.putfield 9, 3) := by decide +kernel
theorem dXA_grow1_59 : decode cXA_grow1 59 = .ok (.areturn, 1) := by decide +kernel
theorem dXU_newLength_0 : decode cXU_newLength 0 = .ok (.iload_n 0, 1) := by decide +kernel
theorem dXU_newLength_1 : decode cXU_newLength 1 = .ok (.iload_n 1, 1) := by decide +kernel
theorem dXU_newLength_2 : decode cXU_newLength 2 = .ok (.iload_n 2, 1) := by decide +kernel
theorem dXU_newLength_3 : decode cXU_newLength 3 = .ok (.invokestatic 194, 3) := by decide +kernel
theorem dXU_newLength_6 : decode cXU_newLength 6 = .ok (.iadd, 1) := by decide +kernel
theorem dXU_newLength_7 : decode cXU_newLength 7 = .ok (.istore_n 3, 1) := by decide +kernel
theorem dXU_newLength_8 : decode cXU_newLength 8 = .ok (.iconst 0, 1) := by decide +kernel
theorem dXU_newLength_9 : decode cXU_newLength 9 = .ok (.iload_n 3, 1) := by decide +kernel
theorem dXU_newLength_10 : decode cXU_newLength 10 = .ok (.if_icmp .ge 11, 3) := by decide +kernel
theorem dXU_newLength_13 : decode cXU_newLength 13 = .ok (.iload_n 3, 1) := by decide +kernel
theorem dXU_newLength_14 : decode cXU_newLength 14 = .ok (.ldc 200, 2) := by decide +kernel
theorem dXU_newLength_16 : decode cXU_newLength 16 = .ok (.if_icmp .gt 5, 3) := by decide +kernel
theorem dXU_newLength_19 : decode cXU_newLength 19 = .ok (.iload_n 3, 1) := by decide +kernel
theorem dXU_newLength_20 : decode cXU_newLength 20 = .ok (.ireturn, 1) := by decide +kernel
theorem dXU_newLength_21 : decode cXU_newLength 21 = .ok (.iload_n 0, 1) := by decide +kernel
theorem dXU_newLength_22 : decode cXU_newLength 22 = .ok (.iload_n 1, 1) := by decide +kernel
theorem dXU_newLength_23 : decode cXU_newLength 23 = .ok (.invokestatic 201, 3) := by decide +kernel
theorem dXU_newLength_26 : decode cXU_newLength 26 = .ok (.ireturn, 1) := by decide +kernel
theorem dXY_copyOf2_0 : decode cXY_copyOf2 0 = .ok (.aload_n 0, 1) := by decide +kernel
theorem dXY_copyOf2_1 : decode cXY_copyOf2 1 = .ok (.iload_n 1, 1) := by decide +kernel
theorem dXY_copyOf2_2 : decode cXY_copyOf2 2 = .ok (.aload_n 0, 1) := by decide +kernel
theorem dXY_copyOf2_3 : decode cXY_copyOf2 3 = .ok (.invokevirtual 86, 3) := by decide +kernel
theorem dXY_copyOf2_6 : decode cXY_copyOf2 6 = .ok (.invokestatic 300, 3) := by decide +kernel
theorem dXY_copyOf2_9 : decode cXY_copyOf2 9 = .ok (.areturn, 1) := by decide +kernel
theorem dXY_copyOf3_0 : decode cXY_copyOf3 0 = .ok (.aload_n 2, 1) := by decide +kernel
theorem dXY_copyOf3_1 : decode cXY_copyOf3 1 = .ok (.ldc 110, 2) := by decide +kernel
theorem dXY_copyOf3_3 : decode cXY_copyOf3 3 = .ok (.if_acmp .ne 10, 3) := by decide +kernel
theorem dXY_copyOf3_6 : decode cXY_copyOf3 6 = .ok (.iload_n 1, 1) := by decide +kernel
theorem dXY_copyOf3_7 : decode cXY_copyOf3 7 = .ok (.anewarray 2, 3) := by decide +kernel
theorem dXY_copyOf3_10 : decode cXY_copyOf3 10 = .ok (.goto 14, 3) := by decide +kernel
theorem dXY_copyOf3_13 : decode cXY_copyOf3 13 = .ok (.aload_n 2, 1) := by decide +kernel
theorem dXY_copyOf3_14 : decode cXY_copyOf3 14 = .ok (.invokevirtual 90, 3) := by decide +kernel
theorem dXY_copyOf3_17 : decode cXY_copyOf3 17 = .ok (.iload_n 1, 1) := by decide +kernel
theorem dXY_copyOf3_18 : decode cXY_copyOf3 18 = .ok (.invokestatic 95, 3) := by decide +kernel
theorem dXY_copyOf3_21 : decode cXY_copyOf3 21 = .ok (.checkcast 110, 3) := by decide +kernel
theorem dXY_copyOf3_24 : decode cXY_copyOf3 24 = .ok (.astore_n 3, 1) := by decide +kernel
theorem dXY_copyOf3_25 : decode cXY_copyOf3 25 = .ok (.aload_n 0, 1) := by decide +kernel
theorem dXY_copyOf3_26 : decode cXY_copyOf3 26 = .ok (.iconst 0, 1) := by decide +kernel
theorem dXY_copyOf3_27 : decode cXY_copyOf3 27 = .ok (.aload_n 3, 1) := by decide +kernel
theorem dXY_copyOf3_28 : decode cXY_copyOf3 28 = .ok (.iconst 0, 1) := by decide +kernel
theorem dXY_copyOf3_29 : decode cXY_copyOf3 29 = .ok (.aload_n 0, 1) := by decide +kernel
theorem dXY_copyOf3_30 : decode cXY_copyOf3 30 = .ok (.arraylength, 1) := by decide +kernel
theorem dXY_copyOf3_31 : decode cXY_copyOf3 31 = .ok (.iload_n 1, 1) := by decide +kernel
theorem dXY_copyOf3_32 : decode cXY_copyOf3 32 = .ok (.invokestatic 304, 3) := by decide +kernel
theorem dXY_copyOf3_35 : decode cXY_copyOf3 35 = .ok (.invokestatic 150, 3) := by decide +kernel
theorem dXY_copyOf3_38 : decode cXY_copyOf3 38 = .ok (.aload_n 3, 1) := by decide +kernel
theorem dXY_copyOf3_39 : decode cXY_copyOf3 39 = .ok (.areturn, 1) := by decide +kernel
theorem dXA_size_0 : decode cXA_size 0 = .ok (.aload_n 0, 1) := by decide +kernel
theorem dXA_size_1 : decode cXA_size 1 = .ok (.getfield 48, 3) := by decide +kernel
theorem dXA_size_4 : decode cXA_size 4 = .ok (.ireturn, 1) := by decide +kernel
theorem dXS_newestAreOfOneTier_0 : decode cXS_newestAreOfOneTier 0 = .ok (.aload_n 0, 1) := by decide +kernel
theorem dXS_newestAreOfOneTier_1 : decode cXS_newestAreOfOneTier 1 = .ok (.getfield 34, 3) := by decide +kernel
theorem dXS_newestAreOfOneTier_4 : decode cXS_newestAreOfOneTier 4 = .ok (.invokevirtual 117, 3) := by decide +kernel
theorem dXS_newestAreOfOneTier_7 : decode cXS_newestAreOfOneTier 7 = .ok (.iconst 3, 1) := by decide +kernel
theorem dXS_newestAreOfOneTier_8 : decode cXS_newestAreOfOneTier 8 = .ok (.isub, 1) := by decide +kernel
theorem dXS_newestAreOfOneTier_9 : decode cXS_newestAreOfOneTier 9 = .ok (.istore_n 1, 1) := by decide +kernel
theorem dXS_newestAreOfOneTier_10 : decode cXS_newestAreOfOneTier 10 = .ok (.iload_n 1, 1) := by decide +kernel
theorem dXS_newestAreOfOneTier_11 : decode cXS_newestAreOfOneTier 11 = .ok (.ifCond .ge 5, 3) := by decide +kernel
theorem dXS_newestAreOfOneTier_14 : decode cXS_newestAreOfOneTier 14 = .ok (.iconst 0, 1) := by decide +kernel
theorem dXS_newestAreOfOneTier_15 : decode cXS_newestAreOfOneTier 15 = .ok (.ireturn, 1) := by decide +kernel
theorem dXS_newestAreOfOneTier_16 : decode cXS_newestAreOfOneTier 16 = .ok (.aload_n 0, 1) := by decide +kernel
theorem dXS_newestAreOfOneTier_17 : decode cXS_newestAreOfOneTier 17 = .ok (.getfield 34, 3) := by decide +kernel
theorem dXS_newestAreOfOneTier_20 : decode cXS_newestAreOfOneTier 20 = .ok (.iload_n 1, 1) := by decide +kernel
theorem dXS_newestAreOfOneTier_21 : decode cXS_newestAreOfOneTier 21 = .ok (.invokevirtual 119, 3) := by decide +kernel
theorem dXS_newestAreOfOneTier_24 : decode cXS_newestAreOfOneTier 24 = .ok (.checkcast 38, 3) := by decide +kernel
theorem dXS_newestAreOfOneTier_27 : decode cXS_newestAreOfOneTier 27 = .ok (.getfield 123, 3) := by decide +kernel
theorem dXS_newestAreOfOneTier_30 : decode cXS_newestAreOfOneTier 30 = .ok (.istore_n 2, 1) := by decide +kernel
theorem dXS_newestAreOfOneTier_31 : decode cXS_newestAreOfOneTier 31 = .ok (.iload_n 1, 1) := by decide +kernel
theorem dXS_newestAreOfOneTier_32 : decode cXS_newestAreOfOneTier 32 = .ok (.iconst 1, 1) := by decide +kernel
theorem dXS_newestAreOfOneTier_33 : decode cXS_newestAreOfOneTier 33 = .ok (.iadd, 1) := by decide +kernel
theorem dXS_newestAreOfOneTier_34 : decode cXS_newestAreOfOneTier 34 = .ok (.istore_n 3, 1) := by decide +kernel
theorem dXS_newestAreOfOneTier_35 : decode cXS_newestAreOfOneTier 35 = .ok (.iload_n 3, 1) := by decide +kernel
theorem dXS_newestAreOfOneTier_36 : decode cXS_newestAreOfOneTier 36 = .ok (.aload_n 0, 1) := by decide +kernel
theorem dXS_newestAreOfOneTier_37 : decode cXS_newestAreOfOneTier 37 = .ok (.getfield 34, 3) := by decide +kernel
theorem dXS_newestAreOfOneTier_40 : decode cXS_newestAreOfOneTier 40 = .ok (.invokevirtual 117, 3) := by decide +kernel
theorem dXS_newestAreOfOneTier_43 : decode cXS_newestAreOfOneTier 43 = .ok (.if_icmp .ge 29, 3) := by decide +kernel
theorem dXS_newestAreOfOneTier_46 : decode cXS_newestAreOfOneTier 46 = .ok (.aload_n 0, 1) := by decide +kernel
theorem dXS_newestAreOfOneTier_47 : decode cXS_newestAreOfOneTier 47 = .ok (.getfield 34, 3) := by decide +kernel
theorem dXS_newestAreOfOneTier_50 : decode cXS_newestAreOfOneTier 50 = .ok (.iload_n 3, 1) := by decide +kernel
theorem dXS_newestAreOfOneTier_51 : decode cXS_newestAreOfOneTier 51 = .ok (.invokevirtual 119, 3) := by decide +kernel
theorem dXS_newestAreOfOneTier_54 : decode cXS_newestAreOfOneTier 54 = .ok (.checkcast 38, 3) := by decide +kernel
theorem dXS_newestAreOfOneTier_57 : decode cXS_newestAreOfOneTier 57 = .ok (.getfield 123, 3) := by decide +kernel
theorem dXS_newestAreOfOneTier_60 : decode cXS_newestAreOfOneTier 60 = .ok (.iload_n 2, 1) := by decide +kernel
theorem dXS_newestAreOfOneTier_61 : decode cXS_newestAreOfOneTier 61 = .ok (.if_icmp .eq 5, 3) := by decide +kernel
theorem dXS_newestAreOfOneTier_64 : decode cXS_newestAreOfOneTier 64 = .ok (.iconst 0, 1) := by decide +kernel
theorem dXS_newestAreOfOneTier_65 : decode cXS_newestAreOfOneTier 65 = .ok (.ireturn, 1) := by decide +kernel
theorem dXS_newestAreOfOneTier_66 : decode cXS_newestAreOfOneTier 66 = .ok (.iinc 3 1, 3) := by decide +kernel
theorem dXS_newestAreOfOneTier_69 : decode cXS_newestAreOfOneTier 69 = .ok (.goto (-34), 3) := by decide +kernel
theorem dXS_newestAreOfOneTier_72 : decode cXS_newestAreOfOneTier 72 = .ok (.iconst 1, 1) := by decide +kernel
theorem dXS_newestAreOfOneTier_73 : decode cXS_newestAreOfOneTier 73 = .ok (.ireturn, 1) := by decide +kernel
theorem dXA_get_0 : decode cXA_get 0 = .ok (.iload_n 1, 1) := by decide +kernel
theorem dXA_get_1 : decode cXA_get 1 = .ok (.aload_n 0, 1) := by decide +kernel
theorem dXA_get_2 : decode cXA_get 2 = .ok (.getfield 48, 3) := by decide +kernel
theorem dXA_get_5 : decode cXA_get 5 = .ok (.invokestatic 118, 3) := by decide +kernel
theorem dXA_get_8 : decode cXA_get 8 = .ok (.pop, 1) := by decide +kernel
theorem dXA_get_9 : decode cXA_get 9 = .ok (.aload_n 0, 1) := by decide +kernel
theorem dXA_get_10 : decode cXA_get 10 = .ok (.iload_n 1, 1) := by decide +kernel
theorem dXA_get_11 : decode cXA_get 11 = .ok (.invokevirtual 123, 3) := by decide +kernel
theorem dXA_get_14 : decode cXA_get 14 = .ok (.areturn, 1) := by decide +kernel
theorem dXO_checkIndex_0 : decode cXO_checkIndex 0 = .ok (.iload_n 0, 1) := by decide +kernel
theorem dXO_checkIndex_1 : decode cXO_checkIndex 1 = .ok (.iload_n 1, 1) := by decide +kernel
theorem dXO_checkIndex_2 : decode cXO_checkIndex 2 = .ok (.aconst_null, 1) := by decide +kernel
theorem dXO_checkIndex_3 : decode cXO_checkIndex 3 = .ok (.invokestatic 105, 3) := by decide +kernel
theorem dXO_checkIndex_6 : decode cXO_checkIndex 6 = .ok (.ireturn, 1) := by decide +kernel
theorem dXP_checkIndex_0 : decode cXP_checkIndex 0 = .ok (.iload_n 0, 1) := by decide +kernel
theorem dXP_checkIndex_1 : decode cXP_checkIndex 1 = .ok (.ifCond .lt 8, 3) := by decide +kernel
theorem dXP_checkIndex_4 : decode cXP_checkIndex 4 = .ok (.iload_n 0, 1) := by decide +kernel
theorem dXP_checkIndex_5 : decode cXP_checkIndex 5 = .ok (.iload_n 1, 1) := by decide +kernel
theorem dXP_checkIndex_6 : decode cXP_checkIndex 6 = .ok (.if_icmp .lt 10, 3) := by decide +kernel
theorem dXP_checkIndex_9 : decode cXP_checkIndex 9 = .ok (.aload_n 2, 1) := by decide +kernel
theorem dXP_checkIndex_10 : decode cXP_checkIndex 10 = .ok (.iload_n 0, 1) := by decide +kernel
theorem dXP_checkIndex_11 : decode cXP_checkIndex 11 = .ok (.iload_n 1, 1) := by decide +kernel
theorem dXP_checkIndex_12 : decode cXP_checkIndex 12 = .ok (.invokestatic 95, 3) := by decide +kernel
theorem dXP_checkIndex_16 : decode cXP_checkIndex 16 = .ok (.iload_n 0, 1) := by decide +kernel
theorem dXP_checkIndex_17 : decode cXP_checkIndex 17 = .ok (.ireturn, 1) := by decide +kernel
theorem dXA_elementData_0 : decode cXA_elementData 0 = .ok (.aload_n 0, 1) := by decide +kernel
theorem dXA_elementData_1 : decode cXA_elementData 1 = .ok (.getfield 9, 3) := by decide +kernel
theorem dXA_elementData_4 : decode cXA_elementData 4 = .ok (.iload_n 1, 1) := by decide +kernel
theorem dXA_elementData_5 : decode cXA_elementData 5 = .ok (.aaload, 1) := by decide +kernel
theorem dXA_elementData_6 : decode cXA_elementData 6 = .ok (.areturn, 1) := by decide +kernel
theorem dXS_mergeFrom_0 : decode cXS_mergeFrom 0 = .ok (.new 38, 3) := by decide +kernel
theorem dXS_mergeFrom_3 : decode cXS_mergeFrom 3 = .ok (.dup, 1) := by decide +kernel
theorem dXS_mergeFrom_4 : decode cXS_mergeFrom 4 = .ok (.iload_n 2, 1) := by decide +kernel
theorem dXS_mergeFrom_5 : decode cXS_mergeFrom 5 = .ok (.invokespecial 40, 3) := by decide +kernel
theorem dXS_mergeFrom_8 : decode cXS_mergeFrom 8 = .ok (.astore_n 3, 1) := by decide +kernel
theorem dXS_mergeFrom_9 : decode cXS_mergeFrom 9 = .ok (.iload_n 1, 1) := by decide +kernel
theorem dXS_mergeFrom_10 : decode cXS_mergeFrom 10 = .ok (.istore 4, 2) := by decide +kernel
theorem dXS_mergeFrom_12 : decode cXS_mergeFrom 12 = .ok (.iload 4, 2) := by decide +kernel
theorem dXS_mergeFrom_14 : decode cXS_mergeFrom 14 = .ok (.aload_n 0, 1) := by decide +kernel
theorem dXS_mergeFrom_15 : decode cXS_mergeFrom 15 = .ok (.getfield 34, 3) := by decide +kernel
theorem dXS_mergeFrom_18 : decode cXS_mergeFrom 18 = .ok (.invokevirtual 117, 3) := by decide +kernel
theorem dXS_mergeFrom_21 : decode cXS_mergeFrom 21 = .ok (.if_icmp .ge 25, 3) := by decide +kernel
theorem dXS_mergeFrom_24 : decode cXS_mergeFrom 24 = .ok (.aload_n 3, 1) := by decide +kernel
theorem dXS_mergeFrom_25 : decode cXS_mergeFrom 25 = .ok (.aload_n 0, 1) := by decide +kernel
theorem dXS_mergeFrom_26 : decode cXS_mergeFrom 26 = .ok (.getfield 34, 3) := by decide +kernel
theorem dXS_mergeFrom_29 : decode cXS_mergeFrom 29 = .ok (.iload 4, 2) := by decide +kernel
theorem dXS_mergeFrom_31 : decode cXS_mergeFrom 31 = .ok (.invokevirtual 119, 3) := by decide +kernel
theorem dXS_mergeFrom_34 : decode cXS_mergeFrom 34 = .ok (.checkcast 38, 3) := by decide +kernel
theorem dXS_mergeFrom_37 : decode cXS_mergeFrom 37 = .ok (.invokevirtual 136, 3) := by decide +kernel
theorem dXS_mergeFrom_40 : decode cXS_mergeFrom 40 = .ok (.iinc 4 1, 3) := by decide +kernel
theorem dXS_mergeFrom_43 : decode cXS_mergeFrom 43 = .ok (.goto (-31), 3) := by decide +kernel
theorem dXS_mergeFrom_46 : decode cXS_mergeFrom 46 = .ok (.aload_n 3, 1) := by decide +kernel
theorem dXS_mergeFrom_47 : decode cXS_mergeFrom 47 = .ok (.invokevirtual 140, 3) := by decide +kernel
theorem dXS_mergeFrom_50 : decode cXS_mergeFrom 50 = .ok (.iload_n 1, 1) := by decide +kernel
theorem dXS_mergeFrom_51 : decode cXS_mergeFrom 51 = .ok (.ifCond .ne 15, 3) := by decide +kernel
theorem dXS_mergeFrom_54 : decode cXS_mergeFrom 54 = .ok (.aload_n 3, 1) := by decide +kernel
theorem dXS_mergeFrom_55 : decode cXS_mergeFrom 55 = .ok (.aload_n 0, 1) := by decide +kernel
theorem dXS_mergeFrom_56 : decode cXS_mergeFrom 56 = .ok (.getfield 53, 3) := by decide +kernel
theorem dXS_mergeFrom_59 : decode cXS_mergeFrom 59 = .ok (.aload_n 0, 1) := by decide +kernel
theorem dXS_mergeFrom_60 : decode cXS_mergeFrom 60 = .ok (.getfield 22, 3) := by decide +kernel
theorem dXS_mergeFrom_63 : decode cXS_mergeFrom 63 = .ok (.invokevirtual 143, 3) := by decide +kernel
theorem dXS_mergeFrom_66 : decode cXS_mergeFrom 66 = .ok (.aload_n 0, 1) := by decide +kernel
theorem dXS_mergeFrom_67 : decode cXS_mergeFrom 67 = .ok (.getfield 34, 3) := by decide +kernel
theorem dXS_mergeFrom_70 : decode cXS_mergeFrom 70 = .ok (.invokevirtual 117, 3) := by decide +kernel
theorem dXS_mergeFrom_73 : decode cXS_mergeFrom 73 = .ok (.iconst 1, 1) := by decide +kernel
theorem dXS_mergeFrom_74 : decode cXS_mergeFrom 74 = .ok (.isub, 1) := by decide +kernel
theorem dXS_mergeFrom_75 : decode cXS_mergeFrom 75 = .ok (.istore 4, 2) := by decide +kernel
theorem dXS_mergeFrom_77 : decode cXS_mergeFrom 77 = .ok (.iload 4, 2) := by decide +kernel
theorem dXS_mergeFrom_79 : decode cXS_mergeFrom 79 = .ok (.iload_n 1, 1) := by decide +kernel
theorem dXS_mergeFrom_80 : decode cXS_mergeFrom 80 = .ok (.if_icmp .lt 19, 3) := by decide +kernel
theorem dXS_mergeFrom_83 : decode cXS_mergeFrom 83 = .ok (.aload_n 0, 1) := by decide +kernel
theorem dXS_mergeFrom_84 : decode cXS_mergeFrom 84 = .ok (.getfield 34, 3) := by decide +kernel
theorem dXS_mergeFrom_87 : decode cXS_mergeFrom 87 = .ok (.iload 4, 2) := by decide +kernel
theorem dXS_mergeFrom_89 : decode cXS_mergeFrom 89 = .ok (.invokevirtual 147, 3) := by decide +kernel
theorem dXS_mergeFrom_92 : decode cXS_mergeFrom 92 = .ok (.pop, 1) := by decide +kernel
theorem dXS_mergeFrom_93 : decode cXS_mergeFrom 93 = .ok (.iinc 4 (-1), 3) := by decide +kernel
theorem dXS_mergeFrom_96 : decode cXS_mergeFrom 96 = .ok (.goto (-19), 3) := by decide +kernel
theorem dXS_mergeFrom_99 : decode cXS_mergeFrom 99 = .ok (.aload_n 0, 1) := by decide +kernel
theorem dXS_mergeFrom_100 : decode cXS_mergeFrom 100 = .ok (.getfield 34, 3) := by decide +kernel
theorem dXS_mergeFrom_103 : decode cXS_mergeFrom 103 = .ok (.aload_n 3, 1) := by decide +kernel
theorem dXS_mergeFrom_104 : decode cXS_mergeFrom 104 = .ok (.invokevirtual 129, 3) := by decide +kernel
theorem dXS_mergeFrom_107 : decode cXS_mergeFrom 107 = .ok (.pop, 1) := by decide +kernel
theorem dXS_mergeFrom_108 : decode cXS_mergeFrom 108 = .ok (.aload_n 3, 1) := by decide +kernel
theorem dXS_mergeFrom_109 : decode cXS_mergeFrom 109 = .ok (.areturn, 1) := by decide +kernel
theorem dXT_addWinners_0 : decode cXT_addWinners 0 = .ok (.iconst 0, 1) := by decide +kernel
theorem dXT_addWinners_1 : decode cXT_addWinners 1 = .ok (.istore_n 2, 1) := by decide +kernel
theorem dXT_addWinners_2 : decode cXT_addWinners 2 = .ok (.iload_n 2, 1) := by decide +kernel
theorem dXT_addWinners_3 : decode cXT_addWinners 3 = .ok (.sipush 704, 3) := by decide +kernel
theorem dXT_addWinners_6 : decode cXT_addWinners 6 = .ok (.if_icmp .ge 28, 3) := by decide +kernel
theorem dXT_addWinners_9 : decode cXT_addWinners 9 = .ok (.aload_n 1, 1) := by decide +kernel
theorem dXT_addWinners_10 : decode cXT_addWinners 10 = .ok (.getfield 17, 3) := by decide +kernel
theorem dXT_addWinners_13 : decode cXT_addWinners 13 = .ok (.iload_n 2, 1) := by decide +kernel
theorem dXT_addWinners_14 : decode cXT_addWinners 14 = .ok (.aaload, 1) := by decide +kernel
theorem dXT_addWinners_15 : decode cXT_addWinners 15 = .ok (.ifnull 13, 3) := by decide +kernel
theorem dXT_addWinners_18 : decode cXT_addWinners 18 = .ok (.aload_n 0, 1) := by decide +kernel
theorem dXT_addWinners_19 : decode cXT_addWinners 19 = .ok (.aload_n 1, 1) := by decide +kernel
theorem dXT_addWinners_20 : decode cXT_addWinners 20 = .ok (.getfield 17, 3) := by decide +kernel
theorem dXT_addWinners_23 : decode cXT_addWinners 23 = .ok (.iload_n 2, 1) := by decide +kernel
theorem dXT_addWinners_24 : decode cXT_addWinners 24 = .ok (.aaload, 1) := by decide +kernel
theorem dXT_addWinners_25 : decode cXT_addWinners 25 = .ok (.invokevirtual 41, 3) := by decide +kernel
theorem dXT_addWinners_28 : decode cXT_addWinners 28 = .ok (.iinc 2 1, 3) := by decide +kernel
theorem dXT_addWinners_31 : decode cXT_addWinners 31 = .ok (.goto (-29), 3) := by decide +kernel
theorem dXT_addWinners_34 : decode cXT_addWinners 34 = .ok (.return_, 1) := by decide +kernel
theorem dXT_dropCovered_0 : decode cXT_dropCovered 0 = .ok (.iconst 0, 1) := by decide +kernel
theorem dXT_dropCovered_1 : decode cXT_dropCovered 1 = .ok (.istore_n 1, 1) := by decide +kernel
theorem dXT_dropCovered_2 : decode cXT_dropCovered 2 = .ok (.iload_n 1, 1) := by decide +kernel
theorem dXT_dropCovered_3 : decode cXT_dropCovered 3 = .ok (.bipush 16, 2) := by decide +kernel
theorem dXT_dropCovered_5 : decode cXT_dropCovered 5 = .ok (.if_icmp .ge 52, 3) := by decide +kernel
theorem dXT_dropCovered_8 : decode cXT_dropCovered 8 = .ok (.iconst 0, 1) := by decide +kernel
theorem dXT_dropCovered_9 : decode cXT_dropCovered 9 = .ok (.istore_n 2, 1) := by decide +kernel
theorem dXT_dropCovered_10 : decode cXT_dropCovered 10 = .ok (.iload_n 2, 1) := by decide +kernel
theorem dXT_dropCovered_11 : decode cXT_dropCovered 11 = .ok (.bipush 8, 2) := by decide +kernel
theorem dXT_dropCovered_13 : decode cXT_dropCovered 13 = .ok (.if_icmp .ge 38, 3) := by decide +kernel
theorem dXT_dropCovered_16 : decode cXT_dropCovered 16 = .ok (.aload_n 0, 1) := by decide +kernel
theorem dXT_dropCovered_17 : decode cXT_dropCovered 17 = .ok (.iload_n 1, 1) := by decide +kernel
theorem dXT_dropCovered_18 : decode cXT_dropCovered 18 = .ok (.iload_n 2, 1) := by decide +kernel
theorem dXT_dropCovered_19 : decode cXT_dropCovered 19 = .ok (.invokevirtual 52, 3) := by decide +kernel
theorem dXT_dropCovered_22 : decode cXT_dropCovered 22 = .ok (.astore_n 3, 1) := by decide +kernel
theorem dXT_dropCovered_23 : decode cXT_dropCovered 23 = .ok (.aload_n 3, 1) := by decide +kernel
theorem dXT_dropCovered_24 : decode cXT_dropCovered 24 = .ok (.ifnull 21, 3) := by decide +kernel
theorem dXT_dropCovered_27 : decode cXT_dropCovered 27 = .ok (.aload_n 0, 1) := by decide +kernel
theorem dXT_dropCovered_28 : decode cXT_dropCovered 28 = .ok (.iload_n 1, 1) := by decide +kernel
theorem dXT_dropCovered_29 : decode cXT_dropCovered 29 = .ok (.iload_n 2, 1) := by decide +kernel
theorem dXT_dropCovered_30 : decode cXT_dropCovered 30 = .ok (.aload_n 3, 1) := by decide +kernel
theorem dXT_dropCovered_31 : decode cXT_dropCovered 31 = .ok (.getfield 49, 3) := by decide +kernel
theorem dXT_dropCovered_34 : decode cXT_dropCovered 34 = .ok (.invokevirtual 56, 3) := by decide +kernel
theorem dXT_dropCovered_37 : decode cXT_dropCovered 37 = .ok (.ifCond .eq 8, 3) := by decide +kernel
theorem dXT_dropCovered_40 : decode cXT_dropCovered 40 = .ok (.aload_n 0, 1) := by decide +kernel
theorem dXT_dropCovered_41 : decode cXT_dropCovered 41 = .ok (.aload_n 3, 1) := by decide +kernel
theorem dXT_dropCovered_42 : decode cXT_dropCovered 42 = .ok (.invokevirtual 60, 3) := by decide +kernel
theorem dXT_dropCovered_45 : decode cXT_dropCovered 45 = .ok (.iinc 2 1, 3) := by decide +kernel
theorem dXT_dropCovered_48 : decode cXT_dropCovered 48 = .ok (.goto (-38), 3) := by decide +kernel
theorem dXT_dropCovered_51 : decode cXT_dropCovered 51 = .ok (.iinc 1 1, 3) := by decide +kernel
theorem dXT_dropCovered_54 : decode cXT_dropCovered 54 = .ok (.goto (-52), 3) := by decide +kernel
theorem dXT_dropCovered_57 : decode cXT_dropCovered 57 = .ok (.return_, 1) := by decide +kernel
theorem dXT_pointAt_0 : decode cXT_pointAt 0 = .ok (.aload_n 0, 1) := by decide +kernel
theorem dXT_pointAt_1 : decode cXT_pointAt 1 = .ok (.getfield 17, 3) := by decide +kernel
theorem dXT_pointAt_4 : decode cXT_pointAt 4 = .ok (.iload_n 1, 1) := by decide +kernel
theorem dXT_pointAt_5 : decode cXT_pointAt 5 = .ok (.iload_n 2, 1) := by decide +kernel
theorem dXT_pointAt_6 : decode cXT_pointAt 6 = .ok (.invokestatic 27, 3) := by decide +kernel
theorem dXT_pointAt_9 : decode cXT_pointAt 9 = .ok (.aaload, 1) := by decide +kernel
theorem dXT_pointAt_10 : decode cXT_pointAt 10 = .ok (.areturn, 1) := by decide +kernel
theorem dXT_covers_0 : decode cXT_covers 0 = .ok (.aload_n 0, 1) := by decide +kernel
theorem dXT_covers_1 : decode cXT_covers 1 = .ok (.getfield 24, 3) := by decide +kernel
theorem dXT_covers_4 : decode cXT_covers 4 = .ok (.ifCond .ne 5, 3) := by decide +kernel
theorem dXT_covers_7 : decode cXT_covers 7 = .ok (.iconst 0, 1) := by decide +kernel
theorem dXT_covers_8 : decode cXT_covers 8 = .ok (.ireturn, 1) := by decide +kernel
theorem dXT_covers_9 : decode cXT_covers 9 = .ok (.iconst 0, 1) := by decide +kernel
theorem dXT_covers_10 : decode cXT_covers 10 = .ok (.istore 4, 2) := by decide +kernel
theorem dXT_covers_12 : decode cXT_covers 12 = .ok (.iload 4, 2) := by decide +kernel
theorem dXT_covers_14 : decode cXT_covers 14 = .ok (.iload_n 2, 1) := by decide +kernel
theorem dXT_covers_15 : decode cXT_covers 15 = .ok (.if_icmp .gt 56, 3) := by decide +kernel
theorem dXT_covers_18 : decode cXT_covers 18 = .ok (.iload_n 2, 1) := by decide +kernel
theorem dXT_covers_19 : decode cXT_covers 19 = .ok (.istore 5, 2) := by decide +kernel
theorem dXT_covers_21 : decode cXT_covers 21 = .ok (.iload 5, 2) := by decide +kernel
theorem dXT_covers_23 : decode cXT_covers 23 = .ok (.bipush 8, 2) := by decide +kernel
theorem dXT_covers_25 : decode cXT_covers 25 = .ok (.if_icmp .ge 40, 3) := by decide +kernel
theorem dXT_covers_28 : decode cXT_covers 28 = .ok (.aload_n 0, 1) := by decide +kernel
theorem dXT_covers_29 : decode cXT_covers 29 = .ok (.getfield 17, 3) := by decide +kernel
theorem dXT_covers_32 : decode cXT_covers 32 = .ok (.iload_n 1, 1) := by decide +kernel
theorem dXT_covers_33 : decode cXT_covers 33 = .ok (.iload 4, 2) := by decide +kernel
theorem dXT_covers_35 : decode cXT_covers 35 = .ok (.iload 5, 2) := by decide +kernel
theorem dXT_covers_37 : decode cXT_covers 37 = .ok (.invokestatic 45, 3) := by decide +kernel
theorem dXT_covers_40 : decode cXT_covers 40 = .ok (.aaload, 1) := by decide +kernel
theorem dXT_covers_41 : decode cXT_covers 41 = .ok (.astore 6, 2) := by decide +kernel
theorem dXT_covers_43 : decode cXT_covers 43 = .ok (.aload 6, 2) := by decide +kernel
theorem dXT_covers_45 : decode cXT_covers 45 = .ok (.ifnull 14, 3) := by decide +kernel
theorem dXT_covers_48 : decode cXT_covers 48 = .ok (.aload 6, 2) := by decide +kernel
theorem dXT_covers_50 : decode cXT_covers 50 = .ok (.getfield 49, 3) := by decide +kernel
theorem dXT_covers_53 : decode cXT_covers 53 = .ok (.iload_n 3, 1) := by decide +kernel
theorem dXT_covers_54 : decode cXT_covers 54 = .ok (.if_icmp .lt 5, 3) := by decide +kernel
theorem dXT_covers_57 : decode cXT_covers 57 = .ok (.iconst 1, 1) := by decide +kernel
theorem dXT_covers_58 : decode cXT_covers 58 = .ok (.ireturn, 1) := by decide +kernel
theorem dXT_covers_59 : decode cXT_covers 59 = .ok (.iinc 5 1, 3) := by decide +kernel
theorem dXT_covers_62 : decode cXT_covers 62 = .ok (.goto (-41), 3) := by decide +kernel
theorem dXT_covers_65 : decode cXT_covers 65 = .ok (.iinc 4 1, 3) := by decide +kernel
theorem dXT_covers_68 : decode cXT_covers 68 = .ok (.goto (-56), 3) := by decide +kernel
theorem dXT_covers_71 : decode cXT_covers 71 = .ok (.iconst 0, 1) := by decide +kernel
theorem dXT_covers_72 : decode cXT_covers 72 = .ok (.ireturn, 1) := by decide +kernel
theorem dXS_wipeSlot_0 : decode cXS_wipeSlot 0 = .ok (.sipush 128, 3) := by decide +kernel
theorem dXS_wipeSlot_3 : decode cXS_wipeSlot 3 = .ok (.iload_n 0, 1) := by decide +kernel
theorem dXS_wipeSlot_4 : decode cXS_wipeSlot 4 = .ok (.bipush 36, 2) := by decide +kernel
theorem dXS_wipeSlot_6 : decode cXS_wipeSlot 6 = .ok (.imul, 1) := by decide +kernel
theorem dXS_wipeSlot_7 : decode cXS_wipeSlot 7 = .ok (.iadd, 1) := by decide +kernel
theorem dXS_wipeSlot_8 : decode cXS_wipeSlot 8 = .ok (.iload_n 2, 1) := by decide +kernel
theorem dXS_wipeSlot_9 : decode cXS_wipeSlot 9 = .ok (.iload_n 2, 1) := by decide +kernel
theorem dXS_wipeSlot_10 : decode cXS_wipeSlot 10 = .ok (.iconst 1, 1) := by decide +kernel
theorem dXS_wipeSlot_11 : decode cXS_wipeSlot 11 = .ok (.iadd, 1) := by decide +kernel
theorem dXS_wipeSlot_12 : decode cXS_wipeSlot 12 = .ok (.imul, 1) := by decide +kernel
theorem dXS_wipeSlot_13 : decode cXS_wipeSlot 13 = .ok (.iconst 2, 1) := by decide +kernel
theorem dXS_wipeSlot_14 : decode cXS_wipeSlot 14 = .ok (.idiv, 1) := by decide +kernel
theorem dXS_wipeSlot_15 : decode cXS_wipeSlot 15 = .ok (.iadd, 1) := by decide +kernel
theorem dXS_wipeSlot_16 : decode cXS_wipeSlot 16 = .ok (.iload_n 1, 1) := by decide +kernel
theorem dXS_wipeSlot_17 : decode cXS_wipeSlot 17 = .ok (.iadd, 1) := by decide +kernel
theorem dXS_wipeSlot_18 : decode cXS_wipeSlot 18 = .ok (.ireturn, 1) := by decide +kernel
theorem dXT_dropEntry_0 : decode cXT_dropEntry 0 = .ok (.aload_n 0, 1) := by decide +kernel
theorem dXT_dropEntry_1 : decode cXT_dropEntry 1 = .ok (.getfield 17, 3) := by decide +kernel
theorem dXT_dropEntry_4 : decode cXT_dropEntry 4 = .ok (.aload_n 1, 1) := by decide +kernel
theorem dXT_dropEntry_5 : decode cXT_dropEntry 5 = .ok (.getfield 31, 3) := by decide +kernel
theorem dXT_dropEntry_8 : decode cXT_dropEntry 8 = .ok (.aconst_null, 1) := by decide +kernel
theorem dXT_dropEntry_9 : decode cXT_dropEntry 9 = .ok (.aastore, 1) := by decide +kernel
theorem dXT_dropEntry_10 : decode cXT_dropEntry 10 = .ok (.aload_n 0, 1) := by decide +kernel
theorem dXT_dropEntry_11 : decode cXT_dropEntry 11 = .ok (.dup, 1) := by decide +kernel
theorem dXT_dropEntry_12 : decode cXT_dropEntry 12 = .ok (.getfield 21, 3) := by decide +kernel
theorem dXT_dropEntry_15 : decode cXT_dropEntry 15 = .ok (.iconst 1, 1) := by decide +kernel
theorem dXT_dropEntry_16 : decode cXT_dropEntry 16 = .ok (.isub, 1) := by decide +kernel
theorem dXT_dropEntry_17 : decode cXT_dropEntry 17 = .ok (.putfield 21, 3) := by decide +kernel
theorem dXT_dropEntry_20 : decode cXT_dropEntry 20 = .ok (.aload_n 0, 1) := by decide +kernel
theorem dXT_dropEntry_21 : decode cXT_dropEntry 21 = .ok (.dup, 1) := by decide +kernel
theorem dXT_dropEntry_22 : decode cXT_dropEntry 22 = .ok (.getfield 24, 3) := by decide +kernel
theorem dXT_dropEntry_25 : decode cXT_dropEntry 25 = .ok (.aload_n 1, 1) := by decide +kernel
theorem dXT_dropEntry_26 : decode cXT_dropEntry 26 = .ok (.getfield 34, 3) := by decide +kernel
theorem dXT_dropEntry_29 : decode cXT_dropEntry 29 = .ok (.iconst 2, 1) := by decide +kernel
theorem dXT_dropEntry_30 : decode cXT_dropEntry 30 = .ok (.if_icmp .ne 7, 3) := by decide +kernel
theorem dXT_dropEntry_33 : decode cXT_dropEntry 33 = .ok (.iconst 1, 1) := by decide +kernel
theorem dXT_dropEntry_34 : decode cXT_dropEntry 34 = .ok (.goto 4, 3) := by decide +kernel
theorem dXT_dropEntry_37 : decode cXT_dropEntry 37 = .ok (.iconst 0, 1) := by decide +kernel
theorem dXT_dropEntry_38 : decode cXT_dropEntry 38 = .ok (.isub, 1) := by decide +kernel
theorem dXT_dropEntry_39 : decode cXT_dropEntry 39 = .ok (.putfield 24, 3) := by decide +kernel
theorem dXT_dropEntry_42 : decode cXT_dropEntry 42 = .ok (.return_, 1) := by decide +kernel
theorem dXT_dropOld_0 : decode cXT_dropOld 0 = .ok (.iconst 0, 1) := by decide +kernel
theorem dXT_dropOld_1 : decode cXT_dropOld 1 = .ok (.istore_n 3, 1) := by decide +kernel
theorem dXT_dropOld_2 : decode cXT_dropOld 2 = .ok (.iload_n 3, 1) := by decide +kernel
theorem dXT_dropOld_3 : decode cXT_dropOld 3 = .ok (.sipush 704, 3) := by decide +kernel
theorem dXT_dropOld_6 : decode cXT_dropOld 6 = .ok (.if_icmp .ge 39, 3) := by decide +kernel
theorem dXT_dropOld_9 : decode cXT_dropOld 9 = .ok (.aload_n 0, 1) := by decide +kernel
theorem dXT_dropOld_10 : decode cXT_dropOld 10 = .ok (.getfield 17, 3) := by decide +kernel
theorem dXT_dropOld_13 : decode cXT_dropOld 13 = .ok (.iload_n 3, 1) := by decide +kernel
theorem dXT_dropOld_14 : decode cXT_dropOld 14 = .ok (.aaload, 1) := by decide +kernel
theorem dXT_dropOld_15 : decode cXT_dropOld 15 = .ok (.astore 4, 2) := by decide +kernel
theorem dXT_dropOld_17 : decode cXT_dropOld 17 = .ok (.aload 4, 2) := by decide +kernel
theorem dXT_dropOld_19 : decode cXT_dropOld 19 = .ok (.ifnull 20, 3) := by decide +kernel
theorem dXT_dropOld_22 : decode cXT_dropOld 22 = .ok (.iload_n 1, 1) := by decide +kernel
theorem dXT_dropOld_23 : decode cXT_dropOld 23 = .ok (.aload 4, 2) := by decide +kernel
theorem dXT_dropOld_25 : decode cXT_dropOld 25 = .ok (.getfield 63, 3) := by decide +kernel
theorem dXT_dropOld_28 : decode cXT_dropOld 28 = .ok (.isub, 1) := by decide +kernel
theorem dXT_dropOld_29 : decode cXT_dropOld 29 = .ok (.iload_n 2, 1) := by decide +kernel
theorem dXT_dropOld_30 : decode cXT_dropOld 30 = .ok (.if_icmp .lt 9, 3) := by decide +kernel
theorem dXT_dropOld_33 : decode cXT_dropOld 33 = .ok (.aload_n 0, 1) := by decide +kernel
theorem dXT_dropOld_34 : decode cXT_dropOld 34 = .ok (.aload 4, 2) := by decide +kernel
theorem dXT_dropOld_36 : decode cXT_dropOld 36 = .ok (.invokevirtual 60, 3) := by decide +kernel
theorem dXT_dropOld_39 : decode cXT_dropOld 39 = .ok (.iinc 3 1, 3) := by decide +kernel
theorem dXT_dropOld_42 : decode cXT_dropOld 42 = .ok (.goto (-40), 3) := by decide +kernel
theorem dXT_dropOld_45 : decode cXT_dropOld 45 = .ok (.return_, 1) := by decide +kernel
theorem dXA_remove_0 : decode cXA_remove 0 = .ok (.iload_n 1, 1) := by decide +kernel
theorem dXA_remove_1 : decode cXA_remove 1 = .ok (.aload_n 0, 1) := by decide +kernel
theorem dXA_remove_2 : decode cXA_remove 2 = .ok (.getfield 48, 3) := by decide +kernel
theorem dXA_remove_5 : decode cXA_remove 5 = .ok (.invokestatic 118, 3) := by decide +kernel
theorem dXA_remove_8 : decode cXA_remove 8 = .ok (.pop, 1) := by decide +kernel
theorem dXA_remove_9 : decode cXA_remove 9 = .ok (.aload_n 0, 1) := by decide +kernel
theorem dXA_remove_10 : decode cXA_remove 10 = .ok (.getfield 9, 3) := by decide +kernel
theorem dXA_remove_13 : decode cXA_remove 13 = .ok (.astore_n 2, 1) := by decide +kernel
theorem dXA_remove_14 : decode cXA_remove 14 = .ok (.aload_n 2, 1) := by decide +kernel
theorem dXA_remove_15 : decode cXA_remove 15 = .ok (.iload_n 1, 1) := by decide +kernel
theorem dXA_remove_16 : decode cXA_remove 16 = .ok (.aaload, 1) := by decide +kernel
theorem dXA_remove_17 : decode cXA_remove 17 = .ok (.astore_n 3, 1) := by decide +kernel
theorem dXA_remove_18 : decode cXA_remove 18 = .ok (.aload_n 0, 1) := by decide +kernel
theorem dXA_remove_19 : decode cXA_remove 19 = .ok (.aload_n 2, 1) := by decide +kernel
theorem dXA_remove_20 : decode cXA_remove 20 = .ok (.iload_n 1, 1) := by decide +kernel
theorem dXA_remove_21 : decode cXA_remove 21 = .ok (.invokevirtual 144, 3) := by decide +kernel
theorem dXA_remove_24 : decode cXA_remove 24 = .ok (.aload_n 3, 1) := by decide +kernel
theorem dXA_remove_25 : decode cXA_remove 25 = .ok (.areturn, 1) := by decide +kernel
theorem dXA_fastRemove_0 : decode cXA_fastRemove 0 = .ok (.aload_n 0, 1) := by decide +kernel
theorem dXA_fastRemove_1 : decode cXA_fastRemove 1 = .ok (.dup, 1) := by decide +kernel
theorem dXA_fastRemove_2 : decode cXA_fastRemove 2 = .ok (.getfield 63, 3) := by decide +kernel
theorem dXA_fastRemove_5 : decode cXA_fastRemove 5 = .ok (.iconst 1, 1) := by decide +kernel
theorem dXA_fastRemove_6 : decode cXA_fastRemove 6 = .ok (.iadd, 1) := by decide +kernel
theorem dXA_fastRemove_7 : decode cXA_fastRemove 7 = .ok (.putfield 63, 3) := by decide +kernel
theorem dXA_fastRemove_10 : decode cXA_fastRemove 10 = .ok (.aload_n 0, 1) := by decide +kernel
theorem dXA_fastRemove_11 : decode cXA_fastRemove 11 = .ok (.getfield 48, 3) := by decide +kernel
theorem dXA_fastRemove_14 : decode cXA_fastRemove 14 = .ok (.iconst 1, 1) := by decide +kernel
theorem dXA_fastRemove_15 : decode cXA_fastRemove 15 = .ok (.isub, 1) := by decide +kernel
theorem dXA_fastRemove_16 : decode cXA_fastRemove 16 = .ok (.dup, 1) := by decide +kernel
theorem dXA_fastRemove_17 : decode cXA_fastRemove 17 = .ok (.istore_n 3, 1) := by decide +kernel
theorem dXA_fastRemove_18 : decode cXA_fastRemove 18 = .ok (.iload_n 2, 1) := by decide +kernel
theorem dXA_fastRemove_19 : decode cXA_fastRemove 19 = .ok (.if_icmp .le 15, 3) := by decide +kernel
theorem dXA_fastRemove_22 : decode cXA_fastRemove 22 = .ok (.aload_n 1, 1) := by decide +kernel
theorem dXA_fastRemove_23 : decode cXA_fastRemove 23 = .ok (.iload_n 2, 1) := by decide +kernel
theorem dXA_fastRemove_24 : decode cXA_fastRemove 24 = .ok (.iconst 1, 1) := by decide +kernel
theorem dXA_fastRemove_25 : decode cXA_fastRemove 25 = .ok (.iadd, 1) := by decide +kernel
theorem dXA_fastRemove_26 : decode cXA_fastRemove 26 = .ok (.aload_n 1, 1) := by decide +kernel
theorem dXA_fastRemove_27 : decode cXA_fastRemove 27 = .ok (.iload_n 2, 1) := by decide +kernel
theorem dXA_fastRemove_28 : decode cXA_fastRemove 28 = .ok (.iload_n 3, 1) := by decide +kernel
theorem dXA_fastRemove_29 : decode cXA_fastRemove 29 = .ok (.iload_n 2, 1) := by decide +kernel
theorem dXA_fastRemove_30 : decode cXA_fastRemove 30 = .ok (.isub, 1) := by decide +kernel
theorem dXA_fastRemove_31 : decode cXA_fastRemove 31 = .ok (.invokestatic 112, 3) := by decide +kernel
theorem dXA_fastRemove_34 : decode cXA_fastRemove 34 = .ok (.aload_n 1, 1) := by decide +kernel
theorem dXA_fastRemove_35 : decode cXA_fastRemove 35 = .ok (.aload_n 0, 1) := by decide +kernel
theorem dXA_fastRemove_36 : decode cXA_fastRemove 36 = .ok (.iload_n 3, 1) := by decide +kernel
theorem dXA_fastRemove_37 : decode cXA_fastRemove 37 = .ok (.dup_x1, 1) := by decide +kernel
theorem dXA_fastRemove_38 : decode cXA_fastRemove 38 = .ok (.putfield 48, 3) := by decide +kernel
theorem dXA_fastRemove_41 : decode cXA_fastRemove 41 = .ok (.aconst_null, 1) := by decide +kernel
theorem dXA_fastRemove_42 : decode cXA_fastRemove 42 = .ok (.aastore, 1) := by decide +kernel
theorem dXA_fastRemove_43 : decode cXA_fastRemove 43 = .ok (.return_, 1) := by decide +kernel
theorem dXS_delete_0 : decode cXS_delete 0 = .ok (.iload_n 1, 1) := by decide +kernel
theorem dXS_delete_1 : decode cXS_delete 1 = .ok (.iload_n 2, 1) := by decide +kernel
theorem dXS_delete_2 : decode cXS_delete 2 = .ok (.invokestatic 56, 3) := by decide +kernel
theorem dXS_delete_5 : decode cXS_delete 5 = .ok (.ifCond .eq 10, 3) := by decide +kernel
theorem dXS_delete_8 : decode cXS_delete 8 = .ok (.iload_n 3, 1) := by decide +kernel
theorem dXS_delete_9 : decode cXS_delete 9 = .ok (.invokestatic 60, 3) := by decide +kernel
theorem dXS_delete_12 : decode cXS_delete 12 = .ok (.ifCond .ne 5, 3) := by decide +kernel
theorem dXS_delete_15 : decode cXS_delete 15 = .ok (.iconst 0, 1) := by decide +kernel
theorem dXS_delete_16 : decode cXS_delete 16 = .ok (.ireturn, 1) := by decide +kernel
theorem dXS_delete_17 : decode cXS_delete 17 = .ok (.aload_n 0, 1) := by decide +kernel
theorem dXS_delete_18 : decode cXS_delete 18 = .ok (.new 25, 3) := by decide +kernel
theorem dXS_delete_21 : decode cXS_delete 21 = .ok (.dup, 1) := by decide +kernel
theorem dXS_delete_22 : decode cXS_delete 22 = .ok (.iconst 1, 1) := by decide +kernel
theorem dXS_delete_23 : decode cXS_delete 23 = .ok (.iload_n 1, 1) := by decide +kernel
theorem dXS_delete_24 : decode cXS_delete 24 = .ok (.iload_n 2, 1) := by decide +kernel
theorem dXS_delete_25 : decode cXS_delete 25 = .ok (.invokestatic 65, 3) := by decide +kernel
theorem dXS_delete_28 : decode cXS_delete 28 = .ok (.iload_n 3, 1) := by decide +kernel
theorem dXS_delete_29 : decode cXS_delete 29 = .ok (.iconst 0, 1) := by decide +kernel
theorem dXS_delete_30 : decode cXS_delete 30 = .ok (.aload_n 0, 1) := by decide +kernel
theorem dXS_delete_31 : decode cXS_delete 31 = .ok (.getfield 53, 3) := by decide +kernel
theorem dXS_delete_34 : decode cXS_delete 34 = .ok (.invokespecial 68, 3) := by decide +kernel
theorem dXS_delete_37 : decode cXS_delete 37 = .ok (.invokevirtual 71, 3) := by decide +kernel
theorem dXS_delete_40 : decode cXS_delete 40 = .ok (.ireturn, 1) := by decide +kernel
theorem dXS_wipe_0 : decode cXS_wipe 0 = .ok (.iload_n 1, 1) := by decide +kernel
theorem dXS_wipe_1 : decode cXS_wipe 1 = .ok (.iload_n 2, 1) := by decide +kernel
theorem dXS_wipe_2 : decode cXS_wipe 2 = .ok (.invokestatic 56, 3) := by decide +kernel
theorem dXS_wipe_5 : decode cXS_wipe 5 = .ok (.ifCond .eq 24, 3) := by decide +kernel
theorem dXS_wipe_8 : decode cXS_wipe 8 = .ok (.iload_n 1, 1) := by decide +kernel
theorem dXS_wipe_9 : decode cXS_wipe 9 = .ok (.iload_n 3, 1) := by decide +kernel
theorem dXS_wipe_10 : decode cXS_wipe 10 = .ok (.invokestatic 56, 3) := by decide +kernel
theorem dXS_wipe_13 : decode cXS_wipe 13 = .ok (.ifCond .eq 16, 3) := by decide +kernel
theorem dXS_wipe_16 : decode cXS_wipe 16 = .ok (.iload_n 2, 1) := by decide +kernel
theorem dXS_wipe_17 : decode cXS_wipe 17 = .ok (.iload_n 3, 1) := by decide +kernel
theorem dXS_wipe_18 : decode cXS_wipe 18 = .ok (.if_icmp .gt 11, 3) := by decide +kernel
theorem dXS_wipe_21 : decode cXS_wipe 21 = .ok (.iload 4, 2) := by decide +kernel
theorem dXS_wipe_23 : decode cXS_wipe 23 = .ok (.invokestatic 60, 3) := by decide +kernel
theorem dXS_wipe_26 : decode cXS_wipe 26 = .ok (.ifCond .ne 5, 3) := by decide +kernel
theorem dXS_wipe_29 : decode cXS_wipe 29 = .ok (.iconst 0, 1) := by decide +kernel
theorem dXS_wipe_30 : decode cXS_wipe 30 = .ok (.ireturn, 1) := by decide +kernel
theorem dXS_wipe_31 : decode cXS_wipe 31 = .ok (.aload_n 0, 1) := by decide +kernel
theorem dXS_wipe_32 : decode cXS_wipe 32 = .ok (.new 25, 3) := by decide +kernel
theorem dXS_wipe_35 : decode cXS_wipe 35 = .ok (.dup, 1) := by decide +kernel
theorem dXS_wipe_36 : decode cXS_wipe 36 = .ok (.iconst 2, 1) := by decide +kernel
theorem dXS_wipe_37 : decode cXS_wipe 37 = .ok (.iload_n 1, 1) := by decide +kernel
theorem dXS_wipe_38 : decode cXS_wipe 38 = .ok (.iload_n 2, 1) := by decide +kernel
theorem dXS_wipe_39 : decode cXS_wipe 39 = .ok (.iload_n 3, 1) := by decide +kernel
theorem dXS_wipe_40 : decode cXS_wipe 40 = .ok (.invokestatic 75, 3) := by decide +kernel
theorem dXS_wipe_43 : decode cXS_wipe 43 = .ok (.iload 4, 2) := by decide +kernel
theorem dXS_wipe_45 : decode cXS_wipe 45 = .ok (.iconst 0, 1) := by decide +kernel
theorem dXS_wipe_46 : decode cXS_wipe 46 = .ok (.aload_n 0, 1) := by decide +kernel
theorem dXS_wipe_47 : decode cXS_wipe 47 = .ok (.getfield 53, 3) := by decide +kernel
theorem dXS_wipe_50 : decode cXS_wipe 50 = .ok (.invokespecial 68, 3) := by decide +kernel
theorem dXS_wipe_53 : decode cXS_wipe 53 = .ok (.invokevirtual 71, 3) := by decide +kernel
theorem dXS_wipe_56 : decode cXS_wipe 56 = .ok (.ireturn, 1) := by decide +kernel
theorem dXS_get_0 : decode cXS_get 0 = .ok (.aload_n 0, 1) := by decide +kernel
theorem dXS_get_1 : decode cXS_get 1 = .ok (.iload_n 1, 1) := by decide +kernel
theorem dXS_get_2 : decode cXS_get 2 = .ok (.iload_n 2, 1) := by decide +kernel
theorem dXS_get_3 : decode cXS_get 3 = .ok (.invokevirtual 79, 3) := by decide +kernel
theorem dXS_get_6 : decode cXS_get 6 = .ok (.astore_n 3, 1) := by decide +kernel
theorem dXS_get_7 : decode cXS_get 7 = .ok (.aload_n 3, 1) := by decide +kernel
theorem dXS_get_8 : decode cXS_get 8 = .ok (.ifnonnull 7, 3) := by decide +kernel
theorem dXS_get_11 : decode cXS_get 11 = .ok (.iconst 0, 1) := by decide +kernel
theorem dXS_get_12 : decode cXS_get 12 = .ok (.goto 7, 3) := by decide +kernel
theorem dXS_get_15 : decode cXS_get 15 = .ok (.aload_n 3, 1) := by decide +kernel
theorem dXS_get_16 : decode cXS_get 16 = .ok (.getfield 83, 3) := by decide +kernel
theorem dXS_get_19 : decode cXS_get 19 = .ok (.ireturn, 1) := by decide +kernel
theorem dXS_seenCell_0 : decode cXS_seenCell 0 = .ok (.iload_n 1, 1) := by decide +kernel
theorem dXS_seenCell_1 : decode cXS_seenCell 1 = .ok (.iload_n 2, 1) := by decide +kernel
theorem dXS_seenCell_2 : decode cXS_seenCell 2 = .ok (.invokestatic 56, 3) := by decide +kernel
theorem dXS_seenCell_5 : decode cXS_seenCell 5 = .ok (.ifCond .ne 5, 3) := by decide +kernel
theorem dXS_seenCell_8 : decode cXS_seenCell 8 = .ok (.aconst_null, 1) := by decide +kernel
theorem dXS_seenCell_9 : decode cXS_seenCell 9 = .ok (.areturn, 1) := by decide +kernel
theorem dXS_seenCell_10 : decode cXS_seenCell 10 = .ok (.aload_n 0, 1) := by decide +kernel
theorem dXS_seenCell_11 : decode cXS_seenCell 11 = .ok (.iload_n 1, 1) := by decide +kernel
theorem dXS_seenCell_12 : decode cXS_seenCell 12 = .ok (.iload_n 2, 1) := by decide +kernel
theorem dXS_seenCell_13 : decode cXS_seenCell 13 = .ok (.invokevirtual 150, 3) := by decide +kernel
theorem dXS_seenCell_16 : decode cXS_seenCell 16 = .ok (.astore_n 3, 1) := by decide +kernel
theorem dXS_seenCell_17 : decode cXS_seenCell 17 = .ok (.aload_n 3, 1) := by decide +kernel
theorem dXS_seenCell_18 : decode cXS_seenCell 18 = .ok (.ifnull 21, 3) := by decide +kernel
theorem dXS_seenCell_21 : decode cXS_seenCell 21 = .ok (.aload_n 3, 1) := by decide +kernel
theorem dXS_seenCell_22 : decode cXS_seenCell 22 = .ok (.getfield 153, 3) := by decide +kernel
theorem dXS_seenCell_25 : decode cXS_seenCell 25 = .ok (.ifCond .ne 14, 3) := by decide +kernel
theorem dXS_seenCell_28 : decode cXS_seenCell 28 = .ok (.aload_n 3, 1) := by decide +kernel
theorem dXS_seenCell_29 : decode cXS_seenCell 29 = .ok (.getfield 156, 3) := by decide +kernel
theorem dXS_seenCell_32 : decode cXS_seenCell 32 = .ok (.aload_n 0, 1) := by decide +kernel
theorem dXS_seenCell_33 : decode cXS_seenCell 33 = .ok (.getfield 53, 3) := by decide +kernel
theorem dXS_seenCell_36 : decode cXS_seenCell 36 = .ok (.if_icmp .gt 5, 3) := by decide +kernel
theorem dXS_seenCell_39 : decode cXS_seenCell 39 = .ok (.aconst_null, 1) := by decide +kernel
theorem dXS_seenCell_40 : decode cXS_seenCell 40 = .ok (.areturn, 1) := by decide +kernel
theorem dXS_seenCell_41 : decode cXS_seenCell 41 = .ok (.aload_n 0, 1) := by decide +kernel
theorem dXS_seenCell_42 : decode cXS_seenCell 42 = .ok (.iload_n 1, 1) := by decide +kernel
theorem dXS_seenCell_43 : decode cXS_seenCell 43 = .ok (.iload_n 2, 1) := by decide +kernel
theorem dXS_seenCell_44 : decode cXS_seenCell 44 = .ok (.aload_n 3, 1) := by decide +kernel
theorem dXS_seenCell_45 : decode cXS_seenCell 45 = .ok (.getfield 86, 3) := by decide +kernel
theorem dXS_seenCell_48 : decode cXS_seenCell 48 = .ok (.invokevirtual 159, 3) := by decide +kernel
theorem dXS_seenCell_51 : decode cXS_seenCell 51 = .ok (.ifCond .eq 7, 3) := by decide +kernel
theorem dXS_seenCell_54 : decode cXS_seenCell 54 = .ok (.aconst_null, 1) := by decide +kernel
theorem dXS_seenCell_55 : decode cXS_seenCell 55 = .ok (.goto 4, 3) := by decide +kernel
theorem dXS_seenCell_58 : decode cXS_seenCell 58 = .ok (.aload_n 3, 1) := by decide +kernel
theorem dXS_seenCell_59 : decode cXS_seenCell 59 = .ok (.areturn, 1) := by decide +kernel
theorem dXS_winningPoint_0 : decode cXS_winningPoint 0 = .ok (.aload_n 0, 1) := by decide +kernel
theorem dXS_winningPoint_1 : decode cXS_winningPoint 1 = .ok (.getfield 43, 3) := by decide +kernel
theorem dXS_winningPoint_4 : decode cXS_winningPoint 4 = .ok (.iload_n 1, 1) := by decide +kernel
theorem dXS_winningPoint_5 : decode cXS_winningPoint 5 = .ok (.iload_n 2, 1) := by decide +kernel
theorem dXS_winningPoint_6 : decode cXS_winningPoint 6 = .ok (.invokevirtual 163, 3) := by decide +kernel
theorem dXS_winningPoint_9 : decode cXS_winningPoint 9 = .ok (.astore_n 3, 1) := by decide +kernel
theorem dXS_winningPoint_10 : decode cXS_winningPoint 10 = .ok (.iconst 0, 1) := by decide +kernel
theorem dXS_winningPoint_11 : decode cXS_winningPoint 11 = .ok (.istore 4, 2) := by decide +kernel
theorem dXS_winningPoint_13 : decode cXS_winningPoint 13 = .ok (.iload 4, 2) := by decide +kernel
theorem dXS_winningPoint_15 : decode cXS_winningPoint 15 = .ok (.aload_n 0, 1) := by decide +kernel
theorem dXS_winningPoint_16 : decode cXS_winningPoint 16 = .ok (.getfield 34, 3) := by decide +kernel
theorem dXS_winningPoint_19 : decode cXS_winningPoint 19 = .ok (.invokevirtual 117, 3) := by decide +kernel
theorem dXS_winningPoint_22 : decode cXS_winningPoint 22 = .ok (.if_icmp .ge 49, 3) := by decide +kernel
theorem dXS_winningPoint_25 : decode cXS_winningPoint 25 = .ok (.aload_n 0, 1) := by decide +kernel
theorem dXS_winningPoint_26 : decode cXS_winningPoint 26 = .ok (.getfield 34, 3) := by decide +kernel
theorem dXS_winningPoint_29 : decode cXS_winningPoint 29 = .ok (.iload 4, 2) := by decide +kernel
theorem dXS_winningPoint_31 : decode cXS_winningPoint 31 = .ok (.invokevirtual 119, 3) := by decide +kernel
theorem dXS_winningPoint_34 : decode cXS_winningPoint 34 = .ok (.checkcast 38, 3) := by decide +kernel
theorem dXS_winningPoint_37 : decode cXS_winningPoint 37 = .ok (.iload_n 1, 1) := by decide +kernel
theorem dXS_winningPoint_38 : decode cXS_winningPoint 38 = .ok (.iload_n 2, 1) := by decide +kernel
theorem dXS_winningPoint_39 : decode cXS_winningPoint 39 = .ok (.invokevirtual 163, 3) := by decide +kernel
theorem dXS_winningPoint_42 : decode cXS_winningPoint 42 = .ok (.astore 5, 2) := by decide +kernel
theorem dXS_winningPoint_44 : decode cXS_winningPoint 44 = .ok (.aload 5, 2) := by decide +kernel
theorem dXS_winningPoint_46 : decode cXS_winningPoint 46 = .ok (.ifnull 19, 3) := by decide +kernel
theorem dXS_winningPoint_49 : decode cXS_winningPoint 49 = .ok (.aload_n 3, 1) := by decide +kernel
theorem dXS_winningPoint_50 : decode cXS_winningPoint 50 = .ok (.ifnull 12, 3) := by decide +kernel
theorem dXS_winningPoint_53 : decode cXS_winningPoint 53 = .ok (.aload 5, 2) := by decide +kernel
theorem dXS_winningPoint_55 : decode cXS_winningPoint 55 = .ok (.aload_n 3, 1) := by decide +kernel
theorem dXS_winningPoint_56 : decode cXS_winningPoint 56 = .ok (.invokevirtual 166, 3) := by decide +kernel
theorem dXS_winningPoint_59 : decode cXS_winningPoint 59 = .ok (.ifCond .eq 6, 3) := by decide +kernel
theorem dXS_winningPoint_62 : decode cXS_winningPoint 62 = .ok (.aload 5, 2) := by decide +kernel
theorem dXS_winningPoint_64 : decode cXS_winningPoint 64 = .ok (.astore_n 3, 1) := by decide +kernel
theorem dXS_winningPoint_65 : decode cXS_winningPoint 65 = .ok (.iinc 4 1, 3) := by decide +kernel
theorem dXS_winningPoint_68 : decode cXS_winningPoint 68 = .ok (.goto (-55), 3) := by decide +kernel
theorem dXS_winningPoint_71 : decode cXS_winningPoint 71 = .ok (.aload_n 3, 1) := by decide +kernel
theorem dXS_winningPoint_72 : decode cXS_winningPoint 72 = .ok (.areturn, 1) := by decide +kernel
theorem dXS_isCovered_0 : decode cXS_isCovered 0 = .ok (.aload_n 0, 1) := by decide +kernel
theorem dXS_isCovered_1 : decode cXS_isCovered 1 = .ok (.getfield 43, 3) := by decide +kernel
theorem dXS_isCovered_4 : decode cXS_isCovered 4 = .ok (.iload_n 1, 1) := by decide +kernel
theorem dXS_isCovered_5 : decode cXS_isCovered 5 = .ok (.iload_n 2, 1) := by decide +kernel
theorem dXS_isCovered_6 : decode cXS_isCovered 6 = .ok (.iload_n 3, 1) := by decide +kernel
theorem dXS_isCovered_7 : decode cXS_isCovered 7 = .ok (.invokevirtual 169, 3) := by decide +kernel
theorem dXS_isCovered_10 : decode cXS_isCovered 10 = .ok (.ifCond .eq 5, 3) := by decide +kernel
theorem dXS_isCovered_13 : decode cXS_isCovered 13 = .ok (.iconst 1, 1) := by decide +kernel
theorem dXS_isCovered_14 : decode cXS_isCovered 14 = .ok (.ireturn, 1) := by decide +kernel
theorem dXS_isCovered_15 : decode cXS_isCovered 15 = .ok (.iconst 0, 1) := by decide +kernel
theorem dXS_isCovered_16 : decode cXS_isCovered 16 = .ok (.istore 4, 2) := by decide +kernel
theorem dXS_isCovered_18 : decode cXS_isCovered 18 = .ok (.iload 4, 2) := by decide +kernel
theorem dXS_isCovered_20 : decode cXS_isCovered 20 = .ok (.aload_n 0, 1) := by decide +kernel
theorem dXS_isCovered_21 : decode cXS_isCovered 21 = .ok (.getfield 34, 3) := by decide +kernel
theorem dXS_isCovered_24 : decode cXS_isCovered 24 = .ok (.invokevirtual 117, 3) := by decide +kernel
theorem dXS_isCovered_27 : decode cXS_isCovered 27 = .ok (.if_icmp .ge 32, 3) := by decide +kernel
theorem dXS_isCovered_30 : decode cXS_isCovered 30 = .ok (.aload_n 0, 1) := by decide +kernel
theorem dXS_isCovered_31 : decode cXS_isCovered 31 = .ok (.getfield 34, 3) := by decide +kernel
theorem dXS_isCovered_34 : decode cXS_isCovered 34 = .ok (.iload 4, 2) := by decide +kernel
theorem dXS_isCovered_36 : decode cXS_isCovered 36 = .ok (.invokevirtual 119, 3) := by decide +kernel
theorem dXS_isCovered_39 : decode cXS_isCovered 39 = .ok (.checkcast 38, 3) := by decide +kernel
theorem dXS_isCovered_42 : decode cXS_isCovered 42 = .ok (.iload_n 1, 1) := by decide +kernel
theorem dXS_isCovered_43 : decode cXS_isCovered 43 = .ok (.iload_n 2, 1) := by decide +kernel
theorem dXS_isCovered_44 : decode cXS_isCovered 44 = .ok (.iload_n 3, 1) := by decide +kernel
theorem dXS_isCovered_45 : decode cXS_isCovered 45 = .ok (.invokevirtual 169, 3) := by decide +kernel
theorem dXS_isCovered_48 : decode cXS_isCovered 48 = .ok (.ifCond .eq 5, 3) := by decide +kernel
theorem dXS_isCovered_51 : decode cXS_isCovered 51 = .ok (.iconst 1, 1) := by decide +kernel
theorem dXS_isCovered_52 : decode cXS_isCovered 52 = .ok (.ireturn, 1) := by decide +kernel
theorem dXS_isCovered_53 : decode cXS_isCovered 53 = .ok (.iinc 4 1, 3) := by decide +kernel
theorem dXS_isCovered_56 : decode cXS_isCovered 56 = .ok (.goto (-38), 3) := by decide +kernel
theorem dXS_isCovered_59 : decode cXS_isCovered 59 = .ok (.iconst 0, 1) := by decide +kernel
theorem dXS_isCovered_60 : decode cXS_isCovered 60 = .ok (.ireturn, 1) := by decide +kernel
theorem dXS_stamp_0 : decode cXS_stamp 0 = .ok (.aload_n 0, 1) := by decide +kernel
theorem dXS_stamp_1 : decode cXS_stamp 1 = .ok (.iload_n 1, 1) := by decide +kernel
theorem dXS_stamp_2 : decode cXS_stamp 2 = .ok (.iload_n 2, 1) := by decide +kernel
theorem dXS_stamp_3 : decode cXS_stamp 3 = .ok (.invokevirtual 79, 3) := by decide +kernel
theorem dXS_stamp_6 : decode cXS_stamp 6 = .ok (.astore_n 3, 1) := by decide +kernel
theorem dXS_stamp_7 : decode cXS_stamp 7 = .ok (.aload_n 3, 1) := by decide +kernel
theorem dXS_stamp_8 : decode cXS_stamp 8 = .ok (.ifnonnull 7, 3) := by decide +kernel
theorem dXS_stamp_11 : decode cXS_stamp 11 = .ok (.iconst (-1), 1) := by decide +kernel
theorem dXS_stamp_12 : decode cXS_stamp 12 = .ok (.goto 7, 3) := by decide +kernel
theorem dXS_stamp_15 : decode cXS_stamp 15 = .ok (.aload_n 3, 1) := by decide +kernel
theorem dXS_stamp_16 : decode cXS_stamp 16 = .ok (.getfield 86, 3) := by decide +kernel
theorem dXS_stamp_19 : decode cXS_stamp 19 = .ok (.ireturn, 1) := by decide +kernel
theorem dXS_next_0 : decode cXS_next 0 = .ok (.iconst 0, 1) := by decide +kernel
theorem dXS_next_1 : decode cXS_next 1 = .ok (.iload_n 2, 1) := by decide +kernel
theorem dXS_next_2 : decode cXS_next 2 = .ok (.invokestatic 15, 3) := by decide +kernel
theorem dXS_next_5 : decode cXS_next 5 = .ok (.istore_n 3, 1) := by decide +kernel
theorem dXS_next_6 : decode cXS_next 6 = .ok (.iload_n 3, 1) := by decide +kernel
theorem dXS_next_7 : decode cXS_next 7 = .ok (.bipush 8, 2) := by decide +kernel
theorem dXS_next_9 : decode cXS_next 9 = .ok (.if_icmp .ge 20, 3) := by decide +kernel
theorem dXS_next_12 : decode cXS_next 12 = .ok (.aload_n 0, 1) := by decide +kernel
theorem dXS_next_13 : decode cXS_next 13 = .ok (.iload_n 1, 1) := by decide +kernel
theorem dXS_next_14 : decode cXS_next 14 = .ok (.iload_n 3, 1) := by decide +kernel
theorem dXS_next_15 : decode cXS_next 15 = .ok (.invokevirtual 79, 3) := by decide +kernel
theorem dXS_next_18 : decode cXS_next 18 = .ok (.ifnull 5, 3) := by decide +kernel
theorem dXS_next_21 : decode cXS_next 21 = .ok (.iload_n 3, 1) := by decide +kernel
theorem dXS_next_22 : decode cXS_next 22 = .ok (.ireturn, 1) := by decide +kernel
theorem dXS_next_23 : decode cXS_next 23 = .ok (.iinc 3 1, 3) := by decide +kernel
theorem dXS_next_26 : decode cXS_next 26 = .ok (.goto (-20), 3) := by decide +kernel
theorem dXS_next_29 : decode cXS_next 29 = .ok (.iconst (-1), 1) := by decide +kernel
theorem dXS_next_30 : decode cXS_next 30 = .ok (.ireturn, 1) := by decide +kernel
theorem dXS_nextRow_0 : decode cXS_nextRow 0 = .ok (.iconst 0, 1) := by decide +kernel
theorem dXS_nextRow_1 : decode cXS_nextRow 1 = .ok (.iload_n 1, 1) := by decide +kernel
theorem dXS_nextRow_2 : decode cXS_nextRow 2 = .ok (.invokestatic 15, 3) := by decide +kernel
theorem dXS_nextRow_5 : decode cXS_nextRow 5 = .ok (.istore_n 2, 1) := by decide +kernel
theorem dXS_nextRow_6 : decode cXS_nextRow 6 = .ok (.iload_n 2, 1) := by decide +kernel
theorem dXS_nextRow_7 : decode cXS_nextRow 7 = .ok (.bipush 16, 2) := by decide +kernel
theorem dXS_nextRow_9 : decode cXS_nextRow 9 = .ok (.if_icmp .ge 21, 3) := by decide +kernel
theorem dXS_nextRow_12 : decode cXS_nextRow 12 = .ok (.aload_n 0, 1) := by decide +kernel
theorem dXS_nextRow_13 : decode cXS_nextRow 13 = .ok (.iload_n 2, 1) := by decide +kernel
theorem dXS_nextRow_14 : decode cXS_nextRow 14 = .ok (.iconst 0, 1) := by decide +kernel
theorem dXS_nextRow_15 : decode cXS_nextRow 15 = .ok (.invokevirtual 89, 3) := by decide +kernel
theorem dXS_nextRow_18 : decode cXS_nextRow 18 = .ok (.iconst (-1), 1) := by decide +kernel
theorem dXS_nextRow_19 : decode cXS_nextRow 19 = .ok (.if_icmp .eq 5, 3) := by decide +kernel
theorem dXS_nextRow_22 : decode cXS_nextRow 22 = .ok (.iload_n 2, 1) := by decide +kernel
theorem dXS_nextRow_23 : decode cXS_nextRow 23 = .ok (.ireturn, 1) := by decide +kernel
theorem dXS_nextRow_24 : decode cXS_nextRow 24 = .ok (.iinc 2 1, 3) := by decide +kernel
theorem dXS_nextRow_27 : decode cXS_nextRow 27 = .ok (.goto (-21), 3) := by decide +kernel
theorem dXS_nextRow_30 : decode cXS_nextRow 30 = .ok (.iconst (-1), 1) := by decide +kernel
theorem dXS_nextRow_31 : decode cXS_nextRow 31 = .ok (.ireturn, 1) := by decide +kernel
theorem dXS_flush_0 : decode cXS_flush 0 = .ok (.aload_n 0, 1) := by decide +kernel
theorem dXS_flush_1 : decode cXS_flush 1 = .ok (.getfield 43, 3) := by decide +kernel
theorem dXS_flush_4 : decode cXS_flush 4 = .ok (.getfield 92, 3) := by decide +kernel
theorem dXS_flush_7 : decode cXS_flush 7 = .ok (.istore_n 1, 1) := by decide +kernel
theorem dXS_flush_8 : decode cXS_flush 8 = .ok (.aload_n 0, 1) := by decide +kernel
theorem dXS_flush_9 : decode cXS_flush 9 = .ok (.invokevirtual 95, 3) := by decide +kernel
theorem dXS_flush_12 : decode cXS_flush 12 = .ok (.iload_n 1, 1) := by decide +kernel
theorem dXS_flush_13 : decode cXS_flush 13 = .ok (.ireturn, 1) := by decide +kernel
theorem dXS_merge_0 : decode cXS_merge 0 = .ok (.aload_n 0, 1) := by decide +kernel
theorem dXS_merge_1 : decode cXS_merge 1 = .ok (.getfield 34, 3) := by decide +kernel
theorem dXS_merge_4 : decode cXS_merge 4 = .ok (.invokevirtual 98, 3) := by decide +kernel
theorem dXS_merge_7 : decode cXS_merge 7 = .ok (.ifCond .eq 5, 3) := by decide +kernel
theorem dXS_merge_10 : decode cXS_merge 10 = .ok (.iconst 0, 1) := by decide +kernel
theorem dXS_merge_11 : decode cXS_merge 11 = .ok (.ireturn, 1) := by decide +kernel
theorem dXS_merge_12 : decode cXS_merge 12 = .ok (.aload_n 0, 1) := by decide +kernel
theorem dXS_merge_13 : decode cXS_merge 13 = .ok (.iconst 0, 1) := by decide +kernel
theorem dXS_merge_14 : decode cXS_merge 14 = .ok (.aload_n 0, 1) := by decide +kernel
theorem dXS_merge_15 : decode cXS_merge 15 = .ok (.invokevirtual 102, 3) := by decide +kernel
theorem dXS_merge_18 : decode cXS_merge 18 = .ok (.invokevirtual 106, 3) := by decide +kernel
theorem dXS_merge_21 : decode cXS_merge 21 = .ok (.getfield 92, 3) := by decide +kernel
theorem dXS_merge_24 : decode cXS_merge 24 = .ok (.ireturn, 1) := by decide +kernel
theorem dXA_isEmpty_0 : decode cXA_isEmpty 0 = .ok (.aload_n 0, 1) := by decide +kernel
theorem dXA_isEmpty_1 : decode cXA_isEmpty 1 = .ok (.getfield 48, 3) := by decide +kernel
theorem dXA_isEmpty_4 : decode cXA_isEmpty 4 = .ok (.ifCond .ne 7, 3) := by decide +kernel
theorem dXA_isEmpty_7 : decode cXA_isEmpty 7 = .ok (.iconst 1, 1) := by decide +kernel
theorem dXA_isEmpty_8 : decode cXA_isEmpty 8 = .ok (.goto 4, 3) := by decide +kernel
theorem dXA_isEmpty_11 : decode cXA_isEmpty 11 = .ok (.iconst 0, 1) := by decide +kernel
theorem dXA_isEmpty_12 : decode cXA_isEmpty 12 = .ok (.ireturn, 1) := by decide +kernel
theorem dXS_greatestTier_0 : decode cXS_greatestTier 0 = .ok (.iconst 0, 1) := by decide +kernel
theorem dXS_greatestTier_1 : decode cXS_greatestTier 1 = .ok (.istore_n 1, 1) := by decide +kernel
theorem dXS_greatestTier_2 : decode cXS_greatestTier 2 = .ok (.iconst 0, 1) := by decide +kernel
theorem dXS_greatestTier_3 : decode cXS_greatestTier 3 = .ok (.istore_n 2, 1) := by decide +kernel
theorem dXS_greatestTier_4 : decode cXS_greatestTier 4 = .ok (.iload_n 2, 1) := by decide +kernel
theorem dXS_greatestTier_5 : decode cXS_greatestTier 5 = .ok (.aload_n 0, 1) := by decide +kernel
theorem dXS_greatestTier_6 : decode cXS_greatestTier 6 = .ok (.getfield 34, 3) := by decide +kernel
theorem dXS_greatestTier_9 : decode cXS_greatestTier 9 = .ok (.invokevirtual 117, 3) := by decide +kernel
theorem dXS_greatestTier_12 : decode cXS_greatestTier 12 = .ok (.if_icmp .ge 28, 3) := by decide +kernel
theorem dXS_greatestTier_15 : decode cXS_greatestTier 15 = .ok (.iload_n 1, 1) := by decide +kernel
theorem dXS_greatestTier_16 : decode cXS_greatestTier 16 = .ok (.aload_n 0, 1) := by decide +kernel
theorem dXS_greatestTier_17 : decode cXS_greatestTier 17 = .ok (.getfield 34, 3) := by decide +kernel
theorem dXS_greatestTier_20 : decode cXS_greatestTier 20 = .ok (.iload_n 2, 1) := by decide +kernel
theorem dXS_greatestTier_21 : decode cXS_greatestTier 21 = .ok (.invokevirtual 119, 3) := by decide +kernel
theorem dXS_greatestTier_24 : decode cXS_greatestTier 24 = .ok (.checkcast 38, 3) := by decide +kernel
theorem dXS_greatestTier_27 : decode cXS_greatestTier 27 = .ok (.getfield 123, 3) := by decide +kernel
theorem dXS_greatestTier_30 : decode cXS_greatestTier 30 = .ok (.invokestatic 15, 3) := by decide +kernel
theorem dXS_greatestTier_33 : decode cXS_greatestTier 33 = .ok (.istore_n 1, 1) := by decide +kernel
theorem dXS_greatestTier_34 : decode cXS_greatestTier 34 = .ok (.iinc 2 1, 3) := by decide +kernel
theorem dXS_greatestTier_37 : decode cXS_greatestTier 37 = .ok (.goto (-33), 3) := by decide +kernel
theorem dXS_greatestTier_40 : decode cXS_greatestTier 40 = .ok (.iload_n 1, 1) := by decide +kernel
theorem dXS_greatestTier_41 : decode cXS_greatestTier 41 = .ok (.ireturn, 1) := by decide +kernel
theorem dXS_sync_0 : decode cXS_sync 0 = .ok (.aload_n 0, 1) := by decide +kernel
theorem dXS_sync_1 : decode cXS_sync 1 = .ok (.aload_n 0, 1) := by decide +kernel
theorem dXS_sync_2 : decode cXS_sync 2 = .ok (.getfield 47, 3) := by decide +kernel
theorem dXS_sync_5 : decode cXS_sync 5 = .ok (.putfield 50, 3) := by decide +kernel
theorem dXS_sync_8 : decode cXS_sync 8 = .ok (.aload_n 0, 1) := by decide +kernel
theorem dXS_sync_9 : decode cXS_sync 9 = .ok (.getfield 50, 3) := by decide +kernel
theorem dXS_sync_12 : decode cXS_sync 12 = .ok (.ireturn, 1) := by decide +kernel
theorem dXS_crash_0 : decode cXS_crash 0 = .ok (.aload_n 0, 1) := by decide +kernel
theorem dXS_crash_1 : decode cXS_crash 1 = .ok (.getfield 43, 3) := by decide +kernel
theorem dXS_crash_4 : decode cXS_crash 4 = .ok (.invokevirtual 110, 3) := by decide +kernel
theorem dXS_crash_7 : decode cXS_crash 7 = .ok (.iconst 0, 1) := by decide +kernel
theorem dXS_crash_8 : decode cXS_crash 8 = .ok (.istore_n 1, 1) := by decide +kernel
theorem dXS_crash_9 : decode cXS_crash 9 = .ok (.iload_n 1, 1) := by decide +kernel
theorem dXS_crash_10 : decode cXS_crash 10 = .ok (.aload_n 0, 1) := by decide +kernel
theorem dXS_crash_11 : decode cXS_crash 11 = .ok (.getfield 50, 3) := by decide +kernel
theorem dXS_crash_14 : decode cXS_crash 14 = .ok (.if_icmp .ge 22, 3) := by decide +kernel
theorem dXS_crash_17 : decode cXS_crash 17 = .ok (.aload_n 0, 1) := by decide +kernel
theorem dXS_crash_18 : decode cXS_crash 18 = .ok (.getfield 43, 3) := by decide +kernel
theorem dXS_crash_21 : decode cXS_crash 21 = .ok (.aload_n 0, 1) := by decide +kernel
theorem dXS_crash_22 : decode cXS_crash 22 = .ok (.getfield 27, 3) := by decide +kernel
theorem dXS_crash_25 : decode cXS_crash 25 = .ok (.iload_n 1, 1) := by decide +kernel
theorem dXS_crash_26 : decode cXS_crash 26 = .ok (.aaload, 1) := by decide +kernel
theorem dXS_crash_27 : decode cXS_crash 27 = .ok (.invokevirtual 113, 3) := by decide +kernel
theorem dXS_crash_30 : decode cXS_crash 30 = .ok (.iinc 1 1, 3) := by decide +kernel
theorem dXS_crash_33 : decode cXS_crash 33 = .ok (.goto (-24), 3) := by decide +kernel
theorem dXS_crash_36 : decode cXS_crash 36 = .ok (.aload_n 0, 1) := by decide +kernel
theorem dXS_crash_37 : decode cXS_crash 37 = .ok (.aload_n 0, 1) := by decide +kernel
theorem dXS_crash_38 : decode cXS_crash 38 = .ok (.getfield 50, 3) := by decide +kernel
theorem dXS_crash_41 : decode cXS_crash 41 = .ok (.putfield 47, 3) := by decide +kernel
theorem dXS_crash_44 : decode cXS_crash 44 = .ok (.aload_n 0, 1) := by decide +kernel
theorem dXS_crash_45 : decode cXS_crash 45 = .ok (.getfield 50, 3) := by decide +kernel
theorem dXS_crash_48 : decode cXS_crash 48 = .ok (.ireturn, 1) := by decide +kernel
theorem dXT_clearSlots_0 : decode cXT_clearSlots 0 = .ok (.iconst 0, 1) := by decide +kernel
theorem dXT_clearSlots_1 : decode cXT_clearSlots 1 = .ok (.istore_n 1, 1) := by decide +kernel
theorem dXT_clearSlots_2 : decode cXT_clearSlots 2 = .ok (.iload_n 1, 1) := by decide +kernel
theorem dXT_clearSlots_3 : decode cXT_clearSlots 3 = .ok (.sipush 704, 3) := by decide +kernel
theorem dXT_clearSlots_6 : decode cXT_clearSlots 6 = .ok (.if_icmp .ge 16, 3) := by decide +kernel
theorem dXT_clearSlots_9 : decode cXT_clearSlots 9 = .ok (.aload_n 0, 1) := by decide +kernel
theorem dXT_clearSlots_10 : decode cXT_clearSlots 10 = .ok (.getfield 17, 3) := by decide +kernel
theorem dXT_clearSlots_13 : decode cXT_clearSlots 13 = .ok (.iload_n 1, 1) := by decide +kernel
theorem dXT_clearSlots_14 : decode cXT_clearSlots 14 = .ok (.aconst_null, 1) := by decide +kernel
theorem dXT_clearSlots_15 : decode cXT_clearSlots 15 = .ok (.aastore, 1) := by decide +kernel
theorem dXT_clearSlots_16 : decode cXT_clearSlots 16 = .ok (.iinc 1 1, 3) := by decide +kernel
theorem dXT_clearSlots_19 : decode cXT_clearSlots 19 = .ok (.goto (-17), 3) := by decide +kernel
theorem dXT_clearSlots_22 : decode cXT_clearSlots 22 = .ok (.aload_n 0, 1) := by decide +kernel
theorem dXT_clearSlots_23 : decode cXT_clearSlots 23 = .ok (.iconst 0, 1) := by decide +kernel
theorem dXT_clearSlots_24 : decode cXT_clearSlots 24 = .ok (.putfield 21, 3) := by decide +kernel
theorem dXT_clearSlots_27 : decode cXT_clearSlots 27 = .ok (.aload_n 0, 1) := by decide +kernel
theorem dXT_clearSlots_28 : decode cXT_clearSlots 28 = .ok (.iconst 0, 1) := by decide +kernel
theorem dXT_clearSlots_29 : decode cXT_clearSlots 29 = .ok (.putfield 24, 3) := by decide +kernel
theorem dXT_clearSlots_32 : decode cXT_clearSlots 32 = .ok (.return_, 1) := by decide +kernel
theorem dXS_tick_0 : decode cXS_tick 0 = .ok (.iload_n 1, 1) := by decide +kernel
theorem dXS_tick_1 : decode cXS_tick 1 = .ok (.ifCond .lt 19, 3) := by decide +kernel
theorem dXS_tick_4 : decode cXS_tick 4 = .ok (.iload_n 1, 1) := by decide +kernel
theorem dXS_tick_5 : decode cXS_tick 5 = .ok (.bipush 100, 2) := by decide +kernel
theorem dXS_tick_7 : decode cXS_tick 7 = .ok (.if_icmp .gt 13, 3) := by decide +kernel
theorem dXS_tick_10 : decode cXS_tick 10 = .ok (.aload_n 0, 1) := by decide +kernel
theorem dXS_tick_11 : decode cXS_tick 11 = .ok (.dup, 1) := by decide +kernel
theorem dXS_tick_12 : decode cXS_tick 12 = .ok (.getfield 53, 3) := by decide +kernel
theorem dXS_tick_15 : decode cXS_tick 15 = .ok (.iload_n 1, 1) := by decide +kernel
theorem dXS_tick_16 : decode cXS_tick 16 = .ok (.iadd, 1) := by decide +kernel
theorem dXS_tick_17 : decode cXS_tick 17 = .ok (.putfield 53, 3) := by decide +kernel
theorem dXS_tick_20 : decode cXS_tick 20 = .ok (.aload_n 0, 1) := by decide +kernel
theorem dXS_tick_21 : decode cXS_tick 21 = .ok (.getfield 53, 3) := by decide +kernel
theorem dXS_tick_24 : decode cXS_tick 24 = .ok (.ireturn, 1) := by decide +kernel
theorem dXS_count_0 : decode cXS_count 0 = .ok (.iload_n 1, 1) := by decide +kernel
theorem dXS_count_1 : decode cXS_count 1 = .ok (.tableswitch 57 0 3 #[31, 39, 47, 52], 31) := by decide +kernel
theorem dXS_count_32 : decode cXS_count 32 = .ok (.aload_n 0, 1) := by decide +kernel
theorem dXS_count_33 : decode cXS_count 33 = .ok (.getfield 43, 3) := by decide +kernel
theorem dXS_count_36 : decode cXS_count 36 = .ok (.getfield 92, 3) := by decide +kernel
theorem dXS_count_39 : decode cXS_count 39 = .ok (.ireturn, 1) := by decide +kernel
theorem dXS_count_40 : decode cXS_count 40 = .ok (.aload_n 0, 1) := by decide +kernel
theorem dXS_count_41 : decode cXS_count 41 = .ok (.getfield 34, 3) := by decide +kernel
theorem dXS_count_44 : decode cXS_count 44 = .ok (.invokevirtual 117, 3) := by decide +kernel
theorem dXS_count_47 : decode cXS_count 47 = .ok (.ireturn, 1) := by decide +kernel
theorem dXS_count_48 : decode cXS_count 48 = .ok (.aload_n 0, 1) := by decide +kernel
theorem dXS_count_49 : decode cXS_count 49 = .ok (.getfield 47, 3) := by decide +kernel
theorem dXS_count_52 : decode cXS_count 52 = .ok (.ireturn, 1) := by decide +kernel
theorem dXS_count_53 : decode cXS_count 53 = .ok (.aload_n 0, 1) := by decide +kernel
theorem dXS_count_54 : decode cXS_count 54 = .ok (.getfield 50, 3) := by decide +kernel
theorem dXS_count_57 : decode cXS_count 57 = .ok (.ireturn, 1) := by decide +kernel
theorem dXS_count_58 : decode cXS_count 58 = .ok (.iconst (-1), 1) := by decide +kernel
theorem dXS_count_59 : decode cXS_count 59 = .ok (.ireturn, 1) := by decide +kernel
theorem dXS_run_0 : decode cXS_run 0 = .ok (.iload_n 1, 1) := by decide +kernel
theorem dXS_run_1 : decode cXS_run 1 = .ok (.ifCond .lt 14, 3) := by decide +kernel
theorem dXS_run_4 : decode cXS_run 4 = .ok (.iload_n 1, 1) := by decide +kernel
theorem dXS_run_5 : decode cXS_run 5 = .ok (.aload_n 0, 1) := by decide +kernel
theorem dXS_run_6 : decode cXS_run 6 = .ok (.getfield 34, 3) := by decide +kernel
theorem dXS_run_9 : decode cXS_run 9 = .ok (.invokevirtual 117, 3) := by decide +kernel
theorem dXS_run_12 : decode cXS_run 12 = .ok (.if_icmp .lt 5, 3) := by decide +kernel
theorem dXS_run_15 : decode cXS_run 15 = .ok (.iconst (-1), 1) := by decide +kernel
theorem dXS_run_16 : decode cXS_run 16 = .ok (.ireturn, 1) := by decide +kernel
theorem dXS_run_17 : decode cXS_run 17 = .ok (.aload_n 0, 1) := by decide +kernel
theorem dXS_run_18 : decode cXS_run 18 = .ok (.getfield 34, 3) := by decide +kernel
theorem dXS_run_21 : decode cXS_run 21 = .ok (.iload_n 1, 1) := by decide +kernel
theorem dXS_run_22 : decode cXS_run 22 = .ok (.invokevirtual 119, 3) := by decide +kernel
theorem dXS_run_25 : decode cXS_run 25 = .ok (.checkcast 38, 3) := by decide +kernel
theorem dXS_run_28 : decode cXS_run 28 = .ok (.astore_n 3, 1) := by decide +kernel
theorem dXS_run_29 : decode cXS_run 29 = .ok (.iload_n 2, 1) := by decide +kernel
theorem dXS_run_30 : decode cXS_run 30 = .ok (.tableswitch 41 0 2 #[26, 31, 36], 26) := by decide +kernel
theorem dXS_run_56 : decode cXS_run 56 = .ok (.aload_n 3, 1) := by decide +kernel
theorem dXS_run_57 : decode cXS_run 57 = .ok (.getfield 92, 3) := by decide +kernel
theorem dXS_run_60 : decode cXS_run 60 = .ok (.ireturn, 1) := by decide +kernel
theorem dXS_run_61 : decode cXS_run 61 = .ok (.aload_n 3, 1) := by decide +kernel
theorem dXS_run_62 : decode cXS_run 62 = .ok (.getfield 123, 3) := by decide +kernel
theorem dXS_run_65 : decode cXS_run 65 = .ok (.ireturn, 1) := by decide +kernel
theorem dXS_run_66 : decode cXS_run 66 = .ok (.aload_n 3, 1) := by decide +kernel
theorem dXS_run_67 : decode cXS_run 67 = .ok (.getfield 126, 3) := by decide +kernel
theorem dXS_run_70 : decode cXS_run 70 = .ok (.ireturn, 1) := by decide +kernel
theorem dXS_run_71 : decode cXS_run 71 = .ok (.iconst (-1), 1) := by decide +kernel
theorem dXS_run_72 : decode cXS_run 72 = .ok (.ireturn, 1) := by decide +kernel
