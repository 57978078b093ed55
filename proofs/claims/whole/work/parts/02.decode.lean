theorem dX0_init_0 : decode cX0_init 0 = .ok (.aload_n 0, 1) := by decide +kernel
theorem dX0_init_1 : decode cX0_init 1 = .ok (.invokespecial 3, 3) := by decide +kernel
theorem dX0_init_4 : decode cX0_init 4 = .ok (.aload_n 0, 1) := by decide +kernel
theorem dX0_init_5 : decode cX0_init 5 = .ok (.iconst 4, 1) := by decide +kernel
theorem dX0_init_6 : decode cX0_init 6 = .ok (.newarray .int, 2) := by decide +kernel
theorem dX0_init_8 : decode cX0_init 8 = .ok (.putfield 9, 3) := by decide +kernel
theorem dX0_init_11 : decode cX0_init 11 = .ok (.return_, 1) := by decide +kernel
theorem dX0_copyFrom_0 : decode cX0_copyFrom 0 = .ok (.aload_n 1, 1) := by decide +kernel
theorem dX0_copyFrom_1 : decode cX0_copyFrom 1 = .ok (.getfield 9, 3) := by decide +kernel
theorem dX0_copyFrom_4 : decode cX0_copyFrom 4 = .ok (.iconst 0, 1) := by decide +kernel
theorem dX0_copyFrom_5 : decode cX0_copyFrom 5 = .ok (.aload_n 0, 1) := by decide +kernel
theorem dX0_copyFrom_6 : decode cX0_copyFrom 6 = .ok (.getfield 9, 3) := by decide +kernel
theorem dX0_copyFrom_9 : decode cX0_copyFrom 9 = .ok (.iconst 0, 1) := by decide +kernel
theorem dX0_copyFrom_10 : decode cX0_copyFrom 10 = .ok (.iconst 4, 1) := by decide +kernel
theorem dX0_copyFrom_11 : decode cX0_copyFrom 11 = .ok (.invokestatic 15, 3) := by decide +kernel
theorem dX0_copyFrom_14 : decode cX0_copyFrom 14 = .ok (.aload_n 0, 1) := by decide +kernel
theorem dX0_copyFrom_15 : decode cX0_copyFrom 15 = .ok (.aload_n 1, 1) := by decide +kernel
theorem dX0_copyFrom_16 : decode cX0_copyFrom 16 = .ok (.getfield 21, 3) := by decide +kernel
theorem dX0_copyFrom_19 : decode cX0_copyFrom 19 = .ok (.putfield 21, 3) := by decide +kernel
theorem dX0_copyFrom_22 : decode cX0_copyFrom 22 = .ok (.aload_n 0, 1) := by decide +kernel
theorem dX0_copyFrom_23 : decode cX0_copyFrom 23 = .ok (.aload_n 1, 1) := by decide +kernel
theorem dX0_copyFrom_24 : decode cX0_copyFrom 24 = .ok (.getfield 25, 3) := by decide +kernel
theorem dX0_copyFrom_27 : decode cX0_copyFrom 27 = .ok (.putfield 25, 3) := by decide +kernel
theorem dX0_copyFrom_30 : decode cX0_copyFrom 30 = .ok (.aload_n 0, 1) := by decide +kernel
theorem dX0_copyFrom_31 : decode cX0_copyFrom 31 = .ok (.aload_n 1, 1) := by decide +kernel
theorem dX0_copyFrom_32 : decode cX0_copyFrom 32 = .ok (.getfield 28, 3) := by decide +kernel
theorem dX0_copyFrom_35 : decode cX0_copyFrom 35 = .ok (.putfield 28, 3) := by decide +kernel
theorem dX0_copyFrom_38 : decode cX0_copyFrom 38 = .ok (.aload_n 0, 1) := by decide +kernel
theorem dX0_copyFrom_39 : decode cX0_copyFrom 39 = .ok (.aload_n 1, 1) := by decide +kernel
theorem dX0_copyFrom_40 : decode cX0_copyFrom 40 = .ok (.getfield 31, 3) := by decide +kernel
theorem dX0_copyFrom_43 : decode cX0_copyFrom 43 = .ok (.putfield 31, 3) := by decide +kernel
theorem dX0_copyFrom_46 : decode cX0_copyFrom 46 = .ok (.return_, 1) := by decide +kernel
theorem dX0_standsBefore_0 : decode cX0_standsBefore 0 = .ok (.iconst 0, 1) := by decide +kernel
theorem dX0_standsBefore_1 : decode cX0_standsBefore 1 = .ok (.istore_n 3, 1) := by decide +kernel
theorem dX0_standsBefore_2 : decode cX0_standsBefore 2 = .ok (.iload_n 2, 1) := by decide +kernel
theorem dX0_standsBefore_3 : decode cX0_standsBefore 3 = .ok (.iconst 1, 1) := by decide +kernel
theorem dX0_standsBefore_4 : decode cX0_standsBefore 4 = .ok (.if_icmp .ne 22, 3) := by decide +kernel
theorem dX0_standsBefore_7 : decode cX0_standsBefore 7 = .ok (.aload_n 0, 1) := by decide +kernel
theorem dX0_standsBefore_8 : decode cX0_standsBefore 8 = .ok (.getfield 9, 3) := by decide +kernel
theorem dX0_standsBefore_11 : decode cX0_standsBefore 11 = .ok (.invokestatic 34, 3) := by decide +kernel
theorem dX0_standsBefore_14 : decode cX0_standsBefore 14 = .ok (.aload_n 1, 1) := by decide +kernel
theorem dX0_standsBefore_15 : decode cX0_standsBefore 15 = .ok (.getfield 9, 3) := by decide +kernel
theorem dX0_standsBefore_18 : decode cX0_standsBefore 18 = .ok (.invokestatic 34, 3) := by decide +kernel
theorem dX0_standsBefore_21 : decode cX0_standsBefore 21 = .ok (.isub, 1) := by decide +kernel
theorem dX0_standsBefore_22 : decode cX0_standsBefore 22 = .ok (.istore_n 3, 1) := by decide +kernel
theorem dX0_standsBefore_23 : decode cX0_standsBefore 23 = .ok (.goto 14, 3) := by decide +kernel
theorem dX0_standsBefore_26 : decode cX0_standsBefore 26 = .ok (.iload_n 2, 1) := by decide +kernel
theorem dX0_standsBefore_27 : decode cX0_standsBefore 27 = .ok (.iconst 2, 1) := by decide +kernel
theorem dX0_standsBefore_28 : decode cX0_standsBefore 28 = .ok (.if_icmp .ne 9, 3) := by decide +kernel
theorem dX0_standsBefore_31 : decode cX0_standsBefore 31 = .ok (.aload_n 0, 1) := by decide +kernel
theorem dX0_standsBefore_32 : decode cX0_standsBefore 32 = .ok (.aload_n 1, 1) := by decide +kernel
theorem dX0_standsBefore_33 : decode cX0_standsBefore 33 = .ok (.invokevirtual 38, 3) := by decide +kernel
theorem dX0_standsBefore_36 : decode cX0_standsBefore 36 = .ok (.istore_n 3, 1) := by decide +kernel
theorem dX0_standsBefore_37 : decode cX0_standsBefore 37 = .ok (.iload_n 3, 1) := by decide +kernel
theorem dX0_standsBefore_38 : decode cX0_standsBefore 38 = .ok (.ifCond .ne 22, 3) := by decide +kernel
theorem dX0_standsBefore_41 : decode cX0_standsBefore 41 = .ok (.aload_n 0, 1) := by decide +kernel
theorem dX0_standsBefore_42 : decode cX0_standsBefore 42 = .ok (.getfield 28, 3) := by decide +kernel
theorem dX0_standsBefore_45 : decode cX0_standsBefore 45 = .ok (.aload_n 1, 1) := by decide +kernel
theorem dX0_standsBefore_46 : decode cX0_standsBefore 46 = .ok (.getfield 28, 3) := by decide +kernel
theorem dX0_standsBefore_49 : decode cX0_standsBefore 49 = .ok (.if_icmp .ge 7, 3) := by decide +kernel
theorem dX0_standsBefore_52 : decode cX0_standsBefore 52 = .ok (.iconst 1, 1) := by decide +kernel
theorem dX0_standsBefore_53 : decode cX0_standsBefore 53 = .ok (.goto 16, 3) := by decide +kernel
theorem dX0_standsBefore_56 : decode cX0_standsBefore 56 = .ok (.iconst 0, 1) := by decide +kernel
theorem dX0_standsBefore_57 : decode cX0_standsBefore 57 = .ok (.goto 12, 3) := by decide +kernel
theorem dX0_standsBefore_60 : decode cX0_standsBefore 60 = .ok (.iload_n 3, 1) := by decide +kernel
theorem dX0_standsBefore_61 : decode cX0_standsBefore 61 = .ok (.ifCond .le 7, 3) := by decide +kernel
theorem dX0_standsBefore_64 : decode cX0_standsBefore 64 = .ok (.iconst 1, 1) := by decide +kernel
theorem dX0_standsBefore_65 : decode cX0_standsBefore 65 = .ok (.goto 4, 3) := by decide +kernel
theorem dX0_standsBefore_68 : decode cX0_standsBefore 68 = .ok (.iconst 0, 1) := by decide +kernel
theorem dX0_standsBefore_69 : decode cX0_standsBefore 69 = .ok (.ireturn, 1) := by decide +kernel
theorem dX0_coarserBy_0 : decode cX0_coarserBy 0 = .ok (.iconst 0, 1) := by decide +kernel
theorem dX0_coarserBy_1 : decode cX0_coarserBy 1 = .ok (.istore_n 2, 1) := by decide +kernel
theorem dX0_coarserBy_2 : decode cX0_coarserBy 2 = .ok (.iload_n 2, 1) := by decide +kernel
theorem dX0_coarserBy_3 : decode cX0_coarserBy 3 = .ok (.iconst 4, 1) := by decide +kernel
theorem dX0_coarserBy_4 : decode cX0_coarserBy 4 = .ok (.if_icmp .ge 38, 3) := by decide +kernel
theorem dX0_coarserBy_7 : decode cX0_coarserBy 7 = .ok (.aload_n 0, 1) := by decide +kernel
theorem dX0_coarserBy_8 : decode cX0_coarserBy 8 = .ok (.getfield 9, 3) := by decide +kernel
theorem dX0_coarserBy_11 : decode cX0_coarserBy 11 = .ok (.iload_n 2, 1) := by decide +kernel
theorem dX0_coarserBy_12 : decode cX0_coarserBy 12 = .ok (.iaload, 1) := by decide +kernel
theorem dX0_coarserBy_13 : decode cX0_coarserBy 13 = .ok (.aload_n 1, 1) := by decide +kernel
theorem dX0_coarserBy_14 : decode cX0_coarserBy 14 = .ok (.getfield 9, 3) := by decide +kernel
theorem dX0_coarserBy_17 : decode cX0_coarserBy 17 = .ok (.iload_n 2, 1) := by decide +kernel
theorem dX0_coarserBy_18 : decode cX0_coarserBy 18 = .ok (.iaload, 1) := by decide +kernel
theorem dX0_coarserBy_19 : decode cX0_coarserBy 19 = .ok (.if_icmp .eq 17, 3) := by decide +kernel
theorem dX0_coarserBy_22 : decode cX0_coarserBy 22 = .ok (.aload_n 0, 1) := by decide +kernel
theorem dX0_coarserBy_23 : decode cX0_coarserBy 23 = .ok (.getfield 9, 3) := by decide +kernel
theorem dX0_coarserBy_26 : decode cX0_coarserBy 26 = .ok (.iload_n 2, 1) := by decide +kernel
theorem dX0_coarserBy_27 : decode cX0_coarserBy 27 = .ok (.iaload, 1) := by decide +kernel
theorem dX0_coarserBy_28 : decode cX0_coarserBy 28 = .ok (.aload_n 1, 1) := by decide +kernel
theorem dX0_coarserBy_29 : decode cX0_coarserBy 29 = .ok (.getfield 9, 3) := by decide +kernel
theorem dX0_coarserBy_32 : decode cX0_coarserBy 32 = .ok (.iload_n 2, 1) := by decide +kernel
theorem dX0_coarserBy_33 : decode cX0_coarserBy 33 = .ok (.iaload, 1) := by decide +kernel
theorem dX0_coarserBy_34 : decode cX0_coarserBy 34 = .ok (.isub, 1) := by decide +kernel
theorem dX0_coarserBy_35 : decode cX0_coarserBy 35 = .ok (.ireturn, 1) := by decide +kernel
theorem dX0_coarserBy_36 : decode cX0_coarserBy 36 = .ok (.iinc 2 1, 3) := by decide +kernel
theorem dX0_coarserBy_39 : decode cX0_coarserBy 39 = .ok (.goto (-37), 3) := by decide +kernel
theorem dX0_coarserBy_42 : decode cX0_coarserBy 42 = .ok (.iconst 0, 1) := by decide +kernel
theorem dX0_coarserBy_43 : decode cX0_coarserBy 43 = .ok (.ireturn, 1) := by decide +kernel
theorem dX0_energyToGrind_0 : decode cX0_energyToGrind 0 = .ok (.iconst 0, 1) := by decide +kernel
theorem dX0_energyToGrind_1 : decode cX0_energyToGrind 1 = .ok (.istore_n 2, 1) := by decide +kernel
theorem dX0_energyToGrind_2 : decode cX0_energyToGrind 2 = .ok (.iconst 0, 1) := by decide +kernel
theorem dX0_energyToGrind_3 : decode cX0_energyToGrind 3 = .ok (.istore_n 3, 1) := by decide +kernel
theorem dX0_energyToGrind_4 : decode cX0_energyToGrind 4 = .ok (.iload_n 3, 1) := by decide +kernel
theorem dX0_energyToGrind_5 : decode cX0_energyToGrind 5 = .ok (.iconst 4, 1) := by decide +kernel
theorem dX0_energyToGrind_6 : decode cX0_energyToGrind 6 = .ok (.if_icmp .ge 22, 3) := by decide +kernel
theorem dX0_energyToGrind_9 : decode cX0_energyToGrind 9 = .ok (.iload_n 2, 1) := by decide +kernel
theorem dX0_energyToGrind_10 : decode cX0_energyToGrind 10 = .ok (.aload_n 1, 1) := by decide +kernel
theorem dX0_energyToGrind_11 : decode cX0_energyToGrind 11 = .ok (.iload_n 3, 1) := by decide +kernel
theorem dX0_energyToGrind_12 : decode cX0_energyToGrind 12 = .ok (.iaload, 1) := by decide +kernel
theorem dX0_energyToGrind_13 : decode cX0_energyToGrind 13 = .ok (.aload_n 0, 1) := by decide +kernel
theorem dX0_energyToGrind_14 : decode cX0_energyToGrind 14 = .ok (.getfield 9, 3) := by decide +kernel
theorem dX0_energyToGrind_17 : decode cX0_energyToGrind 17 = .ok (.iload_n 3, 1) := by decide +kernel
theorem dX0_energyToGrind_18 : decode cX0_energyToGrind 18 = .ok (.iaload, 1) := by decide +kernel
theorem dX0_energyToGrind_19 : decode cX0_energyToGrind 19 = .ok (.imul, 1) := by decide +kernel
theorem dX0_energyToGrind_20 : decode cX0_energyToGrind 20 = .ok (.iadd, 1) := by decide +kernel
theorem dX0_energyToGrind_21 : decode cX0_energyToGrind 21 = .ok (.istore_n 2, 1) := by decide +kernel
theorem dX0_energyToGrind_22 : decode cX0_energyToGrind 22 = .ok (.iinc 3 1, 3) := by decide +kernel
theorem dX0_energyToGrind_25 : decode cX0_energyToGrind 25 = .ok (.goto (-21), 3) := by decide +kernel
theorem dX0_energyToGrind_28 : decode cX0_energyToGrind 28 = .ok (.iload_n 2, 1) := by decide +kernel
theorem dX0_energyToGrind_29 : decode cX0_energyToGrind 29 = .ok (.ireturn, 1) := by decide +kernel
theorem dX0_breakOre_0 : decode cX0_breakOre 0 = .ok (.iconst 3, 1) := by decide +kernel
theorem dX0_breakOre_1 : decode cX0_breakOre 1 = .ok (.istore_n 2, 1) := by decide +kernel
theorem dX0_breakOre_2 : decode cX0_breakOre 2 = .ok (.iload_n 2, 1) := by decide +kernel
theorem dX0_breakOre_3 : decode cX0_breakOre 3 = .ok (.ifCond .lt 69, 3) := by decide +kernel
theorem dX0_breakOre_6 : decode cX0_breakOre 6 = .ok (.aload_n 0, 1) := by decide +kernel
theorem dX0_breakOre_7 : decode cX0_breakOre 7 = .ok (.getfield 9, 3) := by decide +kernel
theorem dX0_breakOre_10 : decode cX0_breakOre 10 = .ok (.iload_n 2, 1) := by decide +kernel
theorem dX0_breakOre_11 : decode cX0_breakOre 11 = .ok (.iaload, 1) := by decide +kernel
theorem dX0_breakOre_12 : decode cX0_breakOre 12 = .ok (.istore_n 3, 1) := by decide +kernel
theorem dX0_breakOre_13 : decode cX0_breakOre 13 = .ok (.iload_n 2, 1) := by decide +kernel
theorem dX0_breakOre_14 : decode cX0_breakOre 14 = .ok (.iconst 1, 1) := by decide +kernel
theorem dX0_breakOre_15 : decode cX0_breakOre 15 = .ok (.iadd, 1) := by decide +kernel
theorem dX0_breakOre_16 : decode cX0_breakOre 16 = .ok (.istore 4, 2) := by decide +kernel
theorem dX0_breakOre_18 : decode cX0_breakOre 18 = .ok (.iload 4, 2) := by decide +kernel
theorem dX0_breakOre_20 : decode cX0_breakOre 20 = .ok (.iconst 4, 1) := by decide +kernel
theorem dX0_breakOre_21 : decode cX0_breakOre 21 = .ok (.if_icmp .ge 45, 3) := by decide +kernel
theorem dX0_breakOre_24 : decode cX0_breakOre 24 = .ok (.iload_n 3, 1) := by decide +kernel
theorem dX0_breakOre_25 : decode cX0_breakOre 25 = .ok (.aload_n 1, 1) := by decide +kernel
theorem dX0_breakOre_26 : decode cX0_breakOre 26 = .ok (.iload_n 2, 1) := by decide +kernel
theorem dX0_breakOre_27 : decode cX0_breakOre 27 = .ok (.aaload, 1) := by decide +kernel
theorem dX0_breakOre_28 : decode cX0_breakOre 28 = .ok (.iload 4, 2) := by decide +kernel
theorem dX0_breakOre_30 : decode cX0_breakOre 30 = .ok (.iaload, 1) := by decide +kernel
theorem dX0_breakOre_31 : decode cX0_breakOre 31 = .ok (.imul, 1) := by decide +kernel
theorem dX0_breakOre_32 : decode cX0_breakOre 32 = .ok (.bipush 10, 2) := by decide +kernel
theorem dX0_breakOre_34 : decode cX0_breakOre 34 = .ok (.idiv, 1) := by decide +kernel
theorem dX0_breakOre_35 : decode cX0_breakOre 35 = .ok (.istore 5, 2) := by decide +kernel
theorem dX0_breakOre_37 : decode cX0_breakOre 37 = .ok (.aload_n 0, 1) := by decide +kernel
theorem dX0_breakOre_38 : decode cX0_breakOre 38 = .ok (.getfield 9, 3) := by decide +kernel
theorem dX0_breakOre_41 : decode cX0_breakOre 41 = .ok (.iload 4, 2) := by decide +kernel
theorem dX0_breakOre_43 : decode cX0_breakOre 43 = .ok (.dup2, 1) := by decide +kernel
theorem dX0_breakOre_44 : decode cX0_breakOre 44 = .ok (.iaload, 1) := by decide +kernel
theorem dX0_breakOre_45 : decode cX0_breakOre 45 = .ok (.iload 5, 2) := by decide +kernel
theorem dX0_breakOre_47 : decode cX0_breakOre 47 = .ok (.iadd, 1) := by decide +kernel
theorem dX0_breakOre_48 : decode cX0_breakOre 48 = .ok (.iastore, 1) := by decide +kernel
theorem dX0_breakOre_49 : decode cX0_breakOre 49 = .ok (.aload_n 0, 1) := by decide +kernel
theorem dX0_breakOre_50 : decode cX0_breakOre 50 = .ok (.getfield 9, 3) := by decide +kernel
theorem dX0_breakOre_53 : decode cX0_breakOre 53 = .ok (.iload_n 2, 1) := by decide +kernel
theorem dX0_breakOre_54 : decode cX0_breakOre 54 = .ok (.dup2, 1) := by decide +kernel
theorem dX0_breakOre_55 : decode cX0_breakOre 55 = .ok (.iaload, 1) := by decide +kernel
theorem dX0_breakOre_56 : decode cX0_breakOre 56 = .ok (.iload 5, 2) := by decide +kernel
theorem dX0_breakOre_58 : decode cX0_breakOre 58 = .ok (.isub, 1) := by decide +kernel
theorem dX0_breakOre_59 : decode cX0_breakOre 59 = .ok (.iastore, 1) := by decide +kernel
theorem dX0_breakOre_60 : decode cX0_breakOre 60 = .ok (.iinc 4 1, 3) := by decide +kernel
theorem dX0_breakOre_63 : decode cX0_breakOre 63 = .ok (.goto (-45), 3) := by decide +kernel
theorem dX0_breakOre_66 : decode cX0_breakOre 66 = .ok (.iinc 2 (-1), 3) := by decide +kernel
theorem dX0_breakOre_69 : decode cX0_breakOre 69 = .ok (.goto (-67), 3) := by decide +kernel
theorem dX0_breakOre_72 : decode cX0_breakOre 72 = .ok (.return_, 1) := by decide +kernel
theorem dX0_classify_0 : decode cX0_classify 0 = .ok (.iconst 0, 1) := by decide +kernel
theorem dX0_classify_1 : decode cX0_classify 1 = .ok (.istore_n 3, 1) := by decide +kernel
theorem dX0_classify_2 : decode cX0_classify 2 = .ok (.iload_n 3, 1) := by decide +kernel
theorem dX0_classify_3 : decode cX0_classify 3 = .ok (.iconst 4, 1) := by decide +kernel
theorem dX0_classify_4 : decode cX0_classify 4 = .ok (.if_icmp .ge 47, 3) := by decide +kernel
theorem dX0_classify_7 : decode cX0_classify 7 = .ok (.aload_n 0, 1) := by decide +kernel
theorem dX0_classify_8 : decode cX0_classify 8 = .ok (.getfield 9, 3) := by decide +kernel
theorem dX0_classify_11 : decode cX0_classify 11 = .ok (.iload_n 3, 1) := by decide +kernel
theorem dX0_classify_12 : decode cX0_classify 12 = .ok (.iaload, 1) := by decide +kernel
theorem dX0_classify_13 : decode cX0_classify 13 = .ok (.aload_n 1, 1) := by decide +kernel
theorem dX0_classify_14 : decode cX0_classify 14 = .ok (.iload_n 3, 1) := by decide +kernel
theorem dX0_classify_15 : decode cX0_classify 15 = .ok (.iaload, 1) := by decide +kernel
theorem dX0_classify_16 : decode cX0_classify 16 = .ok (.imul, 1) := by decide +kernel
theorem dX0_classify_17 : decode cX0_classify 17 = .ok (.bipush 10, 2) := by decide +kernel
theorem dX0_classify_19 : decode cX0_classify 19 = .ok (.idiv, 1) := by decide +kernel
theorem dX0_classify_20 : decode cX0_classify 20 = .ok (.istore 4, 2) := by decide +kernel
theorem dX0_classify_22 : decode cX0_classify 22 = .ok (.aload_n 2, 1) := by decide +kernel
theorem dX0_classify_23 : decode cX0_classify 23 = .ok (.iload_n 3, 1) := by decide +kernel
theorem dX0_classify_24 : decode cX0_classify 24 = .ok (.dup2, 1) := by decide +kernel
theorem dX0_classify_25 : decode cX0_classify 25 = .ok (.iaload, 1) := by decide +kernel
theorem dX0_classify_26 : decode cX0_classify 26 = .ok (.aload_n 0, 1) := by decide +kernel
theorem dX0_classify_27 : decode cX0_classify 27 = .ok (.getfield 9, 3) := by decide +kernel
theorem dX0_classify_30 : decode cX0_classify 30 = .ok (.iload_n 3, 1) := by decide +kernel
theorem dX0_classify_31 : decode cX0_classify 31 = .ok (.iaload, 1) := by decide +kernel
theorem dX0_classify_32 : decode cX0_classify 32 = .ok (.iload 4, 2) := by decide +kernel
theorem dX0_classify_34 : decode cX0_classify 34 = .ok (.isub, 1) := by decide +kernel
theorem dX0_classify_35 : decode cX0_classify 35 = .ok (.iadd, 1) := by decide +kernel
theorem dX0_classify_36 : decode cX0_classify 36 = .ok (.iastore, 1) := by decide +kernel
theorem dX0_classify_37 : decode cX0_classify 37 = .ok (.aload_n 0, 1) := by decide +kernel
theorem dX0_classify_38 : decode cX0_classify 38 = .ok (.getfield 9, 3) := by decide +kernel
theorem dX0_classify_41 : decode cX0_classify 41 = .ok (.iload_n 3, 1) := by decide +kernel
theorem dX0_classify_42 : decode cX0_classify 42 = .ok (.iload 4, 2) := by decide +kernel
theorem dX0_classify_44 : decode cX0_classify 44 = .ok (.iastore, 1) := by decide +kernel
theorem dX0_classify_45 : decode cX0_classify 45 = .ok (.iinc 3 1, 3) := by decide +kernel
theorem dX0_classify_48 : decode cX0_classify 48 = .ok (.goto (-46), 3) := by decide +kernel
theorem dX0_classify_51 : decode cX0_classify 51 = .ok (.return_, 1) := by decide +kernel
theorem dX1_init_0 : decode cX1_init 0 = .ok (.aload_n 0, 1) := by decide +kernel
theorem dX1_init_1 : decode cX1_init 1 = .ok (.invokespecial 1, 3) := by decide +kernel
theorem dX1_init_4 : decode cX1_init 4 = .ok (.aload_n 0, 1) := by decide +kernel
theorem dX1_init_5 : decode cX1_init 5 = .ok (.new 7, 3) := by decide +kernel
theorem dX1_init_8 : decode cX1_init 8 = .ok (.dup, 1) := by decide +kernel
theorem dX1_init_9 : decode cX1_init 9 = .ok (.invokespecial 9, 3) := by decide +kernel
theorem dX1_init_12 : decode cX1_init 12 = .ok (.putfield 10, 3) := by decide +kernel
theorem dX1_init_15 : decode cX1_init 15 = .ok (.aload_n 0, 1) := by decide +kernel
theorem dX1_init_16 : decode cX1_init 16 = .ok (.new 16, 3) := by decide +kernel
theorem dX1_init_19 : decode cX1_init 19 = .ok (.dup, 1) := by decide +kernel
theorem dX1_init_20 : decode cX1_init 20 = .ok (.invokespecial 18, 3) := by decide +kernel
theorem dX1_init_23 : decode cX1_init 23 = .ok (.putfield 19, 3) := by decide +kernel
theorem dX1_init_26 : decode cX1_init 26 = .ok (.return_, 1) := by decide +kernel
theorem dX1_copyFrom_0 : decode cX1_copyFrom 0 = .ok (.aload_n 0, 1) := by decide +kernel
theorem dX1_copyFrom_1 : decode cX1_copyFrom 1 = .ok (.getfield 10, 3) := by decide +kernel
theorem dX1_copyFrom_4 : decode cX1_copyFrom 4 = .ok (.aload_n 1, 1) := by decide +kernel
theorem dX1_copyFrom_5 : decode cX1_copyFrom 5 = .ok (.getfield 10, 3) := by decide +kernel
theorem dX1_copyFrom_8 : decode cX1_copyFrom 8 = .ok (.invokevirtual 23, 3) := by decide +kernel
theorem dX1_copyFrom_11 : decode cX1_copyFrom 11 = .ok (.aload_n 0, 1) := by decide +kernel
theorem dX1_copyFrom_12 : decode cX1_copyFrom 12 = .ok (.getfield 19, 3) := by decide +kernel
theorem dX1_copyFrom_15 : decode cX1_copyFrom 15 = .ok (.aload_n 1, 1) := by decide +kernel
theorem dX1_copyFrom_16 : decode cX1_copyFrom 16 = .ok (.getfield 19, 3) := by decide +kernel
theorem dX1_copyFrom_19 : decode cX1_copyFrom 19 = .ok (.invokevirtual 27, 3) := by decide +kernel
theorem dX1_copyFrom_22 : decode cX1_copyFrom 22 = .ok (.return_, 1) := by decide +kernel
theorem dX2_init_0 : decode cX2_init 0 = .ok (.aload_n 0, 1) := by decide +kernel
theorem dX2_init_1 : decode cX2_init 1 = .ok (.invokespecial 3, 3) := by decide +kernel
theorem dX2_init_4 : decode cX2_init 4 = .ok (.aload_n 0, 1) := by decide +kernel
theorem dX2_init_5 : decode cX2_init 5 = .ok (.iconst 4, 1) := by decide +kernel
theorem dX2_init_6 : decode cX2_init 6 = .ok (.iconst 4, 1) := by decide +kernel
theorem dX2_init_7 : decode cX2_init 7 = .ok (.multianewarray 9 2, 4) := by decide +kernel
theorem dX2_init_11 : decode cX2_init 11 = .ok (.putfield 11, 3) := by decide +kernel
theorem dX2_init_14 : decode cX2_init 14 = .ok (.aload_n 0, 1) := by decide +kernel
theorem dX2_init_15 : decode cX2_init 15 = .ok (.iconst 4, 1) := by decide +kernel
theorem dX2_init_16 : decode cX2_init 16 = .ok (.newarray .int, 2) := by decide +kernel
theorem dX2_init_18 : decode cX2_init 18 = .ok (.putfield 16, 3) := by decide +kernel
theorem dX2_init_21 : decode cX2_init 21 = .ok (.aload_n 0, 1) := by decide +kernel
theorem dX2_init_22 : decode cX2_init 22 = .ok (.iconst 4, 1) := by decide +kernel
theorem dX2_init_23 : decode cX2_init 23 = .ok (.newarray .int, 2) := by decide +kernel
theorem dX2_init_25 : decode cX2_init 25 = .ok (.putfield 20, 3) := by decide +kernel
theorem dX2_init_28 : decode cX2_init 28 = .ok (.aload_n 0, 1) := by decide +kernel
theorem dX2_init_29 : decode cX2_init 29 = .ok (.iconst 4, 1) := by decide +kernel
theorem dX2_init_30 : decode cX2_init 30 = .ok (.newarray .int, 2) := by decide +kernel
theorem dX2_init_32 : decode cX2_init 32 = .ok (.putfield 23, 3) := by decide +kernel
theorem dX2_init_35 : decode cX2_init 35 = .ok (.aload_n 0, 1) := by decide +kernel
theorem dX2_init_36 : decode cX2_init 36 = .ok (.bipush 10, 2) := by decide +kernel
theorem dX2_init_38 : decode cX2_init 38 = .ok (.putfield 26, 3) := by decide +kernel
theorem dX2_init_41 : decode cX2_init 41 = .ok (.aload_n 0, 1) := by decide +kernel
theorem dX2_init_42 : decode cX2_init 42 = .ok (.iconst 0, 1) := by decide +kernel
theorem dX2_init_43 : decode cX2_init 43 = .ok (.putfield 30, 3) := by decide +kernel
theorem dX2_init_46 : decode cX2_init 46 = .ok (.iconst 0, 1) := by decide +kernel
theorem dX2_init_47 : decode cX2_init 47 = .ok (.istore_n 1, 1) := by decide +kernel
theorem dX2_init_48 : decode cX2_init 48 = .ok (.iload_n 1, 1) := by decide +kernel
theorem dX2_init_49 : decode cX2_init 49 = .ok (.iconst 4, 1) := by decide +kernel
theorem dX2_init_50 : decode cX2_init 50 = .ok (.if_icmp .ge 26, 3) := by decide +kernel
theorem dX2_init_53 : decode cX2_init 53 = .ok (.aload_n 0, 1) := by decide +kernel
theorem dX2_init_54 : decode cX2_init 54 = .ok (.getfield 11, 3) := by decide +kernel
theorem dX2_init_57 : decode cX2_init 57 = .ok (.iload_n 1, 1) := by decide +kernel
theorem dX2_init_58 : decode cX2_init 58 = .ok (.aaload, 1) := by decide +kernel
theorem dX2_init_59 : decode cX2_init 59 = .ok (.iload_n 1, 1) := by decide +kernel
theorem dX2_init_60 : decode cX2_init 60 = .ok (.bipush 10, 2) := by decide +kernel
theorem dX2_init_62 : decode cX2_init 62 = .ok (.iastore, 1) := by decide +kernel
theorem dX2_init_63 : decode cX2_init 63 = .ok (.aload_n 0, 1) := by decide +kernel
theorem dX2_init_64 : decode cX2_init 64 = .ok (.getfield 20, 3) := by decide +kernel
theorem dX2_init_67 : decode cX2_init 67 = .ok (.iload_n 1, 1) := by decide +kernel
theorem dX2_init_68 : decode cX2_init 68 = .ok (.iconst 1, 1) := by decide +kernel
theorem dX2_init_69 : decode cX2_init 69 = .ok (.iastore, 1) := by decide +kernel
theorem dX2_init_70 : decode cX2_init 70 = .ok (.iinc 1 1, 3) := by decide +kernel
theorem dX2_init_73 : decode cX2_init 73 = .ok (.goto (-25), 3) := by decide +kernel
theorem dX2_init_76 : decode cX2_init 76 = .ok (.return_, 1) := by decide +kernel
theorem dX2_putShare_0 : decode cX2_putShare 0 = .ok (.iload_n 1, 1) := by decide +kernel
theorem dX2_putShare_1 : decode cX2_putShare 1 = .ok (.invokestatic 33, 3) := by decide +kernel
theorem dX2_putShare_4 : decode cX2_putShare 4 = .ok (.ifCond .eq 19, 3) := by decide +kernel
theorem dX2_putShare_7 : decode cX2_putShare 7 = .ok (.iload_n 2, 1) := by decide +kernel
theorem dX2_putShare_8 : decode cX2_putShare 8 = .ok (.invokestatic 33, 3) := by decide +kernel
theorem dX2_putShare_11 : decode cX2_putShare 11 = .ok (.ifCond .eq 12, 3) := by decide +kernel
theorem dX2_putShare_14 : decode cX2_putShare 14 = .ok (.aload_n 0, 1) := by decide +kernel
theorem dX2_putShare_15 : decode cX2_putShare 15 = .ok (.getfield 11, 3) := by decide +kernel
theorem dX2_putShare_18 : decode cX2_putShare 18 = .ok (.iload_n 1, 1) := by decide +kernel
theorem dX2_putShare_19 : decode cX2_putShare 19 = .ok (.aaload, 1) := by decide +kernel
theorem dX2_putShare_20 : decode cX2_putShare 20 = .ok (.iload_n 2, 1) := by decide +kernel
theorem dX2_putShare_21 : decode cX2_putShare 21 = .ok (.iload_n 3, 1) := by decide +kernel
theorem dX2_putShare_22 : decode cX2_putShare 22 = .ok (.iastore, 1) := by decide +kernel
theorem dX2_putShare_23 : decode cX2_putShare 23 = .ok (.return_, 1) := by decide +kernel
theorem dX2_copyFrom_0 : decode cX2_copyFrom 0 = .ok (.iconst 0, 1) := by decide +kernel
theorem dX2_copyFrom_1 : decode cX2_copyFrom 1 = .ok (.istore_n 2, 1) := by decide +kernel
theorem dX2_copyFrom_2 : decode cX2_copyFrom 2 = .ok (.iload_n 2, 1) := by decide +kernel
theorem dX2_copyFrom_3 : decode cX2_copyFrom 3 = .ok (.iconst 4, 1) := by decide +kernel
theorem dX2_copyFrom_4 : decode cX2_copyFrom 4 = .ok (.if_icmp .ge 27, 3) := by decide +kernel
theorem dX2_copyFrom_7 : decode cX2_copyFrom 7 = .ok (.aload_n 1, 1) := by decide +kernel
theorem dX2_copyFrom_8 : decode cX2_copyFrom 8 = .ok (.getfield 11, 3) := by decide +kernel
theorem dX2_copyFrom_11 : decode cX2_copyFrom 11 = .ok (.iload_n 2, 1) := by decide +kernel
theorem dX2_copyFrom_12 : decode cX2_copyFrom 12 = .ok (.aaload, 1) := by decide +kernel
theorem dX2_copyFrom_13 : decode cX2_copyFrom 13 = .ok (.iconst 0, 1) := by decide +kernel
theorem dX2_copyFrom_14 : decode cX2_copyFrom 14 = .ok (.aload_n 0, 1) := by decide +kernel
theorem dX2_copyFrom_15 : decode cX2_copyFrom 15 = .ok (.getfield 11, 3) := by decide +kernel
theorem dX2_copyFrom_18 : decode cX2_copyFrom 18 = .ok (.iload_n 2, 1) := by decide +kernel
theorem dX2_copyFrom_19 : decode cX2_copyFrom 19 = .ok (.aaload, 1) := by decide +kernel
theorem dX2_copyFrom_20 : decode cX2_copyFrom 20 = .ok (.iconst 0, 1) := by decide +kernel
theorem dX2_copyFrom_21 : decode cX2_copyFrom 21 = .ok (.iconst 4, 1) := by decide +kernel
theorem dX2_copyFrom_22 : decode cX2_copyFrom 22 = .ok (.invokestatic 37, 3) := by decide +kernel
theorem dX2_copyFrom_25 : decode cX2_copyFrom 25 = .ok (.iinc 2 1, 3) := by decide +kernel
theorem dX2_copyFrom_28 : decode cX2_copyFrom 28 = .ok (.goto (-26), 3) := by decide +kernel
theorem dX2_copyFrom_31 : decode cX2_copyFrom 31 = .ok (.aload_n 1, 1) := by decide +kernel
theorem dX2_copyFrom_32 : decode cX2_copyFrom 32 = .ok (.getfield 16, 3) := by decide +kernel
theorem dX2_copyFrom_35 : decode cX2_copyFrom 35 = .ok (.iconst 0, 1) := by decide +kernel
theorem dX2_copyFrom_36 : decode cX2_copyFrom 36 = .ok (.aload_n 0, 1) := by decide +kernel
theorem dX2_copyFrom_37 : decode cX2_copyFrom 37 = .ok (.getfield 16, 3) := by decide +kernel
theorem dX2_copyFrom_40 : decode cX2_copyFrom 40 = .ok (.iconst 0, 1) := by decide +kernel
theorem dX2_copyFrom_41 : decode cX2_copyFrom 41 = .ok (.iconst 4, 1) := by decide +kernel
theorem dX2_copyFrom_42 : decode cX2_copyFrom 42 = .ok (.invokestatic 37, 3) := by decide +kernel
theorem dX2_copyFrom_45 : decode cX2_copyFrom 45 = .ok (.aload_n 1, 1) := by decide +kernel
theorem dX2_copyFrom_46 : decode cX2_copyFrom 46 = .ok (.getfield 20, 3) := by decide +kernel
theorem dX2_copyFrom_49 : decode cX2_copyFrom 49 = .ok (.iconst 0, 1) := by decide +kernel
theorem dX2_copyFrom_50 : decode cX2_copyFrom 50 = .ok (.aload_n 0, 1) := by decide +kernel
theorem dX2_copyFrom_51 : decode cX2_copyFrom 51 = .ok (.getfield 20, 3) := by decide +kernel
theorem dX2_copyFrom_54 : decode cX2_copyFrom 54 = .ok (.iconst 0, 1) := by decide +kernel
theorem dX2_copyFrom_55 : decode cX2_copyFrom 55 = .ok (.iconst 4, 1) := by decide +kernel
theorem dX2_copyFrom_56 : decode cX2_copyFrom 56 = .ok (.invokestatic 37, 3) := by decide +kernel
theorem dX2_copyFrom_59 : decode cX2_copyFrom 59 = .ok (.aload_n 1, 1) := by decide +kernel
theorem dX2_copyFrom_60 : decode cX2_copyFrom 60 = .ok (.getfield 23, 3) := by decide +kernel
theorem dX2_copyFrom_63 : decode cX2_copyFrom 63 = .ok (.iconst 0, 1) := by decide +kernel
theorem dX2_copyFrom_64 : decode cX2_copyFrom 64 = .ok (.aload_n 0, 1) := by decide +kernel
theorem dX2_copyFrom_65 : decode cX2_copyFrom 65 = .ok (.getfield 23, 3) := by decide +kernel
theorem dX2_copyFrom_68 : decode cX2_copyFrom 68 = .ok (.iconst 0, 1) := by decide +kernel
theorem dX2_copyFrom_69 : decode cX2_copyFrom 69 = .ok (.iconst 4, 1) := by decide +kernel
theorem dX2_copyFrom_70 : decode cX2_copyFrom 70 = .ok (.invokestatic 37, 3) := by decide +kernel
theorem dX2_copyFrom_73 : decode cX2_copyFrom 73 = .ok (.aload_n 0, 1) := by decide +kernel
theorem dX2_copyFrom_74 : decode cX2_copyFrom 74 = .ok (.aload_n 1, 1) := by decide +kernel
theorem dX2_copyFrom_75 : decode cX2_copyFrom 75 = .ok (.getfield 26, 3) := by decide +kernel
theorem dX2_copyFrom_78 : decode cX2_copyFrom 78 = .ok (.putfield 26, 3) := by decide +kernel
theorem dX2_copyFrom_81 : decode cX2_copyFrom 81 = .ok (.aload_n 0, 1) := by decide +kernel
theorem dX2_copyFrom_82 : decode cX2_copyFrom 82 = .ok (.aload_n 1, 1) := by decide +kernel
theorem dX2_copyFrom_83 : decode cX2_copyFrom 83 = .ok (.getfield 30, 3) := by decide +kernel
theorem dX2_copyFrom_86 : decode cX2_copyFrom 86 = .ok (.putfield 30, 3) := by decide +kernel
theorem dX2_copyFrom_89 : decode cX2_copyFrom 89 = .ok (.return_, 1) := by decide +kernel
theorem dX3_init_0 : decode cX3_init 0 = .ok (.aload_n 0, 1) := by decide +kernel
theorem dX3_init_1 : decode cX3_init 1 = .ok (.invokespecial 3, 3) := by decide +kernel
theorem dX3_init_4 : decode cX3_init 4 = .ok (.aload_n 0, 1) := by decide +kernel
theorem dX3_init_5 : decode cX3_init 5 = .ok (.bipush 40, 2) := by decide +kernel
theorem dX3_init_7 : decode cX3_init 7 = .ok (.anewarray 9, 3) := by decide +kernel
theorem dX3_init_10 : decode cX3_init 10 = .ok (.putfield 11, 3) := by decide +kernel
theorem dX3_init_13 : decode cX3_init 13 = .ok (.aload_n 0, 1) := by decide +kernel
theorem dX3_init_14 : decode cX3_init 14 = .ok (.iconst 4, 1) := by decide +kernel
theorem dX3_init_15 : decode cX3_init 15 = .ok (.newarray .int, 2) := by decide +kernel
theorem dX3_init_17 : decode cX3_init 17 = .ok (.putfield 17, 3) := by decide +kernel
theorem dX3_init_20 : decode cX3_init 20 = .ok (.aload_n 0, 1) := by decide +kernel
theorem dX3_init_21 : decode cX3_init 21 = .ok (.iconst (-1), 1) := by decide +kernel
theorem dX3_init_22 : decode cX3_init 22 = .ok (.putfield 21, 3) := by decide +kernel
theorem dX3_init_25 : decode cX3_init 25 = .ok (.iconst 0, 1) := by decide +kernel
theorem dX3_init_26 : decode cX3_init 26 = .ok (.istore_n 1, 1) := by decide +kernel
theorem dX3_init_27 : decode cX3_init 27 = .ok (.iload_n 1, 1) := by decide +kernel
theorem dX3_init_28 : decode cX3_init 28 = .ok (.bipush 40, 2) := by decide +kernel
theorem dX3_init_30 : decode cX3_init 30 = .ok (.if_icmp .ge 22, 3) := by decide +kernel
theorem dX3_init_33 : decode cX3_init 33 = .ok (.aload_n 0, 1) := by decide +kernel
theorem dX3_init_34 : decode cX3_init 34 = .ok (.getfield 11, 3) := by decide +kernel
theorem dX3_init_37 : decode cX3_init 37 = .ok (.iload_n 1, 1) := by decide +kernel
theorem dX3_init_38 : decode cX3_init 38 = .ok (.new 9, 3) := by decide +kernel
theorem dX3_init_41 : decode cX3_init 41 = .ok (.dup, 1) := by decide +kernel
theorem dX3_init_42 : decode cX3_init 42 = .ok (.invokespecial 25, 3) := by decide +kernel
theorem dX3_init_45 : decode cX3_init 45 = .ok (.aastore, 1) := by decide +kernel
theorem dX3_init_46 : decode cX3_init 46 = .ok (.iinc 1 1, 3) := by decide +kernel
theorem dX3_init_49 : decode cX3_init 49 = .ok (.goto (-22), 3) := by decide +kernel
theorem dX3_init_52 : decode cX3_init 52 = .ok (.return_, 1) := by decide +kernel
theorem dX3_copyFrom_0 : decode cX3_copyFrom 0 = .ok (.iconst 0, 1) := by decide +kernel
theorem dX3_copyFrom_1 : decode cX3_copyFrom 1 = .ok (.istore_n 2, 1) := by decide +kernel
theorem dX3_copyFrom_2 : decode cX3_copyFrom 2 = .ok (.iload_n 2, 1) := by decide +kernel
theorem dX3_copyFrom_3 : decode cX3_copyFrom 3 = .ok (.aload_n 1, 1) := by decide +kernel
theorem dX3_copyFrom_4 : decode cX3_copyFrom 4 = .ok (.getfield 26, 3) := by decide +kernel
theorem dX3_copyFrom_7 : decode cX3_copyFrom 7 = .ok (.if_icmp .ge 24, 3) := by decide +kernel
theorem dX3_copyFrom_10 : decode cX3_copyFrom 10 = .ok (.aload_n 0, 1) := by decide +kernel
theorem dX3_copyFrom_11 : decode cX3_copyFrom 11 = .ok (.getfield 11, 3) := by decide +kernel
theorem dX3_copyFrom_14 : decode cX3_copyFrom 14 = .ok (.iload_n 2, 1) := by decide +kernel
theorem dX3_copyFrom_15 : decode cX3_copyFrom 15 = .ok (.aaload, 1) := by decide +kernel
theorem dX3_copyFrom_16 : decode cX3_copyFrom 16 = .ok (.aload_n 1, 1) := by decide +kernel
theorem dX3_copyFrom_17 : decode cX3_copyFrom 17 = .ok (.getfield 11, 3) := by decide +kernel
theorem dX3_copyFrom_20 : decode cX3_copyFrom 20 = .ok (.iload_n 2, 1) := by decide +kernel
theorem dX3_copyFrom_21 : decode cX3_copyFrom 21 = .ok (.aaload, 1) := by decide +kernel
theorem dX3_copyFrom_22 : decode cX3_copyFrom 22 = .ok (.invokevirtual 29, 3) := by decide +kernel
theorem dX3_copyFrom_25 : decode cX3_copyFrom 25 = .ok (.iinc 2 1, 3) := by decide +kernel
theorem dX3_copyFrom_28 : decode cX3_copyFrom 28 = .ok (.goto (-26), 3) := by decide +kernel
theorem dX3_copyFrom_31 : decode cX3_copyFrom 31 = .ok (.aload_n 1, 1) := by decide +kernel
theorem dX3_copyFrom_32 : decode cX3_copyFrom 32 = .ok (.getfield 17, 3) := by decide +kernel
theorem dX3_copyFrom_35 : decode cX3_copyFrom 35 = .ok (.iconst 0, 1) := by decide +kernel
theorem dX3_copyFrom_36 : decode cX3_copyFrom 36 = .ok (.aload_n 0, 1) := by decide +kernel
theorem dX3_copyFrom_37 : decode cX3_copyFrom 37 = .ok (.getfield 17, 3) := by decide +kernel
theorem dX3_copyFrom_40 : decode cX3_copyFrom 40 = .ok (.iconst 0, 1) := by decide +kernel
theorem dX3_copyFrom_41 : decode cX3_copyFrom 41 = .ok (.iconst 4, 1) := by decide +kernel
theorem dX3_copyFrom_42 : decode cX3_copyFrom 42 = .ok (.invokestatic 33, 3) := by decide +kernel
theorem dX3_copyFrom_45 : decode cX3_copyFrom 45 = .ok (.aload_n 0, 1) := by decide +kernel
theorem dX3_copyFrom_46 : decode cX3_copyFrom 46 = .ok (.aload_n 1, 1) := by decide +kernel
theorem dX3_copyFrom_47 : decode cX3_copyFrom 47 = .ok (.getfield 26, 3) := by decide +kernel
theorem dX3_copyFrom_50 : decode cX3_copyFrom 50 = .ok (.putfield 26, 3) := by decide +kernel
theorem dX3_copyFrom_53 : decode cX3_copyFrom 53 = .ok (.aload_n 0, 1) := by decide +kernel
theorem dX3_copyFrom_54 : decode cX3_copyFrom 54 = .ok (.aload_n 1, 1) := by decide +kernel
theorem dX3_copyFrom_55 : decode cX3_copyFrom 55 = .ok (.getfield 39, 3) := by decide +kernel
theorem dX3_copyFrom_58 : decode cX3_copyFrom 58 = .ok (.putfield 39, 3) := by decide +kernel
theorem dX3_copyFrom_61 : decode cX3_copyFrom 61 = .ok (.aload_n 0, 1) := by decide +kernel
theorem dX3_copyFrom_62 : decode cX3_copyFrom 62 = .ok (.aload_n 1, 1) := by decide +kernel
theorem dX3_copyFrom_63 : decode cX3_copyFrom 63 = .ok (.getfield 42, 3) := by decide +kernel
theorem dX3_copyFrom_66 : decode cX3_copyFrom 66 = .ok (.putfield 42, 3) := by decide +kernel
theorem dX3_copyFrom_69 : decode cX3_copyFrom 69 = .ok (.aload_n 0, 1) := by decide +kernel
theorem dX3_copyFrom_70 : decode cX3_copyFrom 70 = .ok (.aload_n 1, 1) := by decide +kernel
theorem dX3_copyFrom_71 : decode cX3_copyFrom 71 = .ok (.getfield 21, 3) := by decide +kernel
theorem dX3_copyFrom_74 : decode cX3_copyFrom 74 = .ok (.putfield 21, 3) := by decide +kernel
theorem dX3_copyFrom_77 : decode cX3_copyFrom 77 = .ok (.aload_n 0, 1) := by decide +kernel
theorem dX3_copyFrom_78 : decode cX3_copyFrom 78 = .ok (.aload_n 1, 1) := by decide +kernel
theorem dX3_copyFrom_79 : decode cX3_copyFrom 79 = .ok (.getfield 45, 3) := by decide +kernel
theorem dX3_copyFrom_82 : decode cX3_copyFrom 82 = .ok (.putfield 45, 3) := by decide +kernel
theorem dX3_copyFrom_85 : decode cX3_copyFrom 85 = .ok (.aload_n 0, 1) := by decide +kernel
theorem dX3_copyFrom_86 : decode cX3_copyFrom 86 = .ok (.aload_n 1, 1) := by decide +kernel
theorem dX3_copyFrom_87 : decode cX3_copyFrom 87 = .ok (.getfield 48, 3) := by decide +kernel
theorem dX3_copyFrom_90 : decode cX3_copyFrom 90 = .ok (.putfield 48, 3) := by decide +kernel
theorem dX3_copyFrom_93 : decode cX3_copyFrom 93 = .ok (.aload_n 0, 1) := by decide +kernel
theorem dX3_copyFrom_94 : decode cX3_copyFrom 94 = .ok (.aload_n 1, 1) := by decide +kernel
theorem dX3_copyFrom_95 : decode cX3_copyFrom 95 = .ok (.getfield 51, 3) := by decide +kernel
theorem dX3_copyFrom_98 : decode cX3_copyFrom 98 = .ok (.putfield 51, 3) := by decide +kernel
theorem dX3_copyFrom_101 : decode cX3_copyFrom 101 = .ok (.return_, 1) := by decide +kernel
theorem dX3_isIdle_0 : decode cX3_isIdle 0 = .ok (.aload_n 0, 1) := by decide +kernel
theorem dX3_isIdle_1 : decode cX3_isIdle 1 = .ok (.aload_n 0, 1) := by decide +kernel
theorem dX3_isIdle_2 : decode cX3_isIdle 2 = .ok (.getfield 21, 3) := by decide +kernel
theorem dX3_isIdle_5 : decode cX3_isIdle 5 = .ok (.invokevirtual 54, 3) := by decide +kernel
theorem dX3_isIdle_8 : decode cX3_isIdle 8 = .ok (.ifCond .ne 7, 3) := by decide +kernel
theorem dX3_isIdle_11 : decode cX3_isIdle 11 = .ok (.iconst 1, 1) := by decide +kernel
theorem dX3_isIdle_12 : decode cX3_isIdle 12 = .ok (.goto 4, 3) := by decide +kernel
theorem dX3_isIdle_15 : decode cX3_isIdle 15 = .ok (.iconst 0, 1) := by decide +kernel
theorem dX3_isIdle_16 : decode cX3_isIdle 16 = .ok (.ireturn, 1) := by decide +kernel
theorem dX3_hasLot_0 : decode cX3_hasLot 0 = .ok (.iload_n 1, 1) := by decide +kernel
theorem dX3_hasLot_1 : decode cX3_hasLot 1 = .ok (.ifCond .lt 15, 3) := by decide +kernel
theorem dX3_hasLot_4 : decode cX3_hasLot 4 = .ok (.iload_n 1, 1) := by decide +kernel
theorem dX3_hasLot_5 : decode cX3_hasLot 5 = .ok (.aload_n 0, 1) := by decide +kernel
theorem dX3_hasLot_6 : decode cX3_hasLot 6 = .ok (.getfield 26, 3) := by decide +kernel
theorem dX3_hasLot_9 : decode cX3_hasLot 9 = .ok (.if_icmp .ge 7, 3) := by decide +kernel
theorem dX3_hasLot_12 : decode cX3_hasLot 12 = .ok (.iconst 1, 1) := by decide +kernel
theorem dX3_hasLot_13 : decode cX3_hasLot 13 = .ok (.goto 4, 3) := by decide +kernel
theorem dX3_hasLot_16 : decode cX3_hasLot 16 = .ok (.iconst 0, 1) := by decide +kernel
theorem dX3_hasLot_17 : decode cX3_hasLot 17 = .ok (.ireturn, 1) := by decide +kernel
theorem dX3_create_0 : decode cX3_create 0 = .ok (.aload_n 0, 1) := by decide +kernel
theorem dX3_create_1 : decode cX3_create 1 = .ok (.getfield 26, 3) := by decide +kernel
theorem dX3_create_4 : decode cX3_create 4 = .ok (.bipush 40, 2) := by decide +kernel
theorem dX3_create_6 : decode cX3_create 6 = .ok (.if_icmp .lt 5, 3) := by decide +kernel
theorem dX3_create_9 : decode cX3_create 9 = .ok (.iconst (-1), 1) := by decide +kernel
theorem dX3_create_10 : decode cX3_create 10 = .ok (.ireturn, 1) := by decide +kernel
theorem dX3_create_11 : decode cX3_create 11 = .ok (.aload_n 0, 1) := by decide +kernel
theorem dX3_create_12 : decode cX3_create 12 = .ok (.getfield 26, 3) := by decide +kernel
theorem dX3_create_15 : decode cX3_create 15 = .ok (.istore 5, 2) := by decide +kernel
theorem dX3_create_17 : decode cX3_create 17 = .ok (.aload_n 0, 1) := by decide +kernel
theorem dX3_create_18 : decode cX3_create 18 = .ok (.getfield 11, 3) := by decide +kernel
theorem dX3_create_21 : decode cX3_create 21 = .ok (.iload 5, 2) := by decide +kernel
theorem dX3_create_23 : decode cX3_create 23 = .ok (.aaload, 1) := by decide +kernel
theorem dX3_create_24 : decode cX3_create 24 = .ok (.astore 6, 2) := by decide +kernel
theorem dX3_create_26 : decode cX3_create 26 = .ok (.aload 6, 2) := by decide +kernel
theorem dX3_create_28 : decode cX3_create 28 = .ok (.getfield 58, 3) := by decide +kernel
theorem dX3_create_31 : decode cX3_create 31 = .ok (.iconst 0, 1) := by decide +kernel
theorem dX3_create_32 : decode cX3_create 32 = .ok (.iload_n 1, 1) := by decide +kernel
theorem dX3_create_33 : decode cX3_create 33 = .ok (.iastore, 1) := by decide +kernel
theorem dX3_create_34 : decode cX3_create 34 = .ok (.aload 6, 2) := by decide +kernel
theorem dX3_create_36 : decode cX3_create 36 = .ok (.getfield 58, 3) := by decide +kernel
theorem dX3_create_39 : decode cX3_create 39 = .ok (.iconst 1, 1) := by decide +kernel
theorem dX3_create_40 : decode cX3_create 40 = .ok (.iload_n 2, 1) := by decide +kernel
theorem dX3_create_41 : decode cX3_create 41 = .ok (.iastore, 1) := by decide +kernel
theorem dX3_create_42 : decode cX3_create 42 = .ok (.aload 6, 2) := by decide +kernel
theorem dX3_create_44 : decode cX3_create 44 = .ok (.getfield 58, 3) := by decide +kernel
theorem dX3_create_47 : decode cX3_create 47 = .ok (.iconst 2, 1) := by decide +kernel
theorem dX3_create_48 : decode cX3_create 48 = .ok (.iload_n 3, 1) := by decide +kernel
theorem dX3_create_49 : decode cX3_create 49 = .ok (.iastore, 1) := by decide +kernel
theorem dX3_create_50 : decode cX3_create 50 = .ok (.aload 6, 2) := by decide +kernel
theorem dX3_create_52 : decode cX3_create 52 = .ok (.getfield 58, 3) := by decide +kernel
theorem dX3_create_55 : decode cX3_create 55 = .ok (.iconst 3, 1) := by decide +kernel
theorem dX3_create_56 : decode cX3_create 56 = .ok (.iload 4, 2) := by decide +kernel
theorem dX3_create_58 : decode cX3_create 58 = .ok (.iastore, 1) := by decide +kernel
theorem dX3_create_59 : decode cX3_create 59 = .ok (.aload 6, 2) := by decide +kernel
theorem dX3_create_61 : decode cX3_create 61 = .ok (.iconst 0, 1) := by decide +kernel
theorem dX3_create_62 : decode cX3_create 62 = .ok (.putfield 61, 3) := by decide +kernel
theorem dX3_create_65 : decode cX3_create 65 = .ok (.aload_n 0, 1) := by decide +kernel
theorem dX3_create_66 : decode cX3_create 66 = .ok (.dup, 1) := by decide +kernel
theorem dX3_create_67 : decode cX3_create 67 = .ok (.getfield 26, 3) := by decide +kernel
theorem dX3_create_70 : decode cX3_create 70 = .ok (.iconst 1, 1) := by decide +kernel
theorem dX3_create_71 : decode cX3_create 71 = .ok (.iadd, 1) := by decide +kernel
theorem dX3_create_72 : decode cX3_create 72 = .ok (.putfield 26, 3) := by decide +kernel
theorem dX3_create_75 : decode cX3_create 75 = .ok (.iload 5, 2) := by decide +kernel
theorem dX3_create_77 : decode cX3_create 77 = .ok (.ireturn, 1) := by decide +kernel
theorem dX3_plan_0 : decode cX3_plan 0 = .ok (.aload_n 1, 1) := by decide +kernel
theorem dX3_plan_1 : decode cX3_plan 1 = .ok (.iconst 0, 1) := by decide +kernel
theorem dX3_plan_2 : decode cX3_plan 2 = .ok (.putfield 64, 3) := by decide +kernel
theorem dX3_plan_5 : decode cX3_plan 5 = .ok (.aload_n 1, 1) := by decide +kernel
theorem dX3_plan_6 : decode cX3_plan 6 = .ok (.aload_n 0, 1) := by decide +kernel
theorem dX3_plan_7 : decode cX3_plan 7 = .ok (.getfield 39, 3) := by decide +kernel
theorem dX3_plan_10 : decode cX3_plan 10 = .ok (.iload_n 2, 1) := by decide +kernel
theorem dX3_plan_11 : decode cX3_plan 11 = .ok (.iadd, 1) := by decide +kernel
theorem dX3_plan_12 : decode cX3_plan 12 = .ok (.putfield 67, 3) := by decide +kernel
theorem dX3_plan_15 : decode cX3_plan 15 = .ok (.return_, 1) := by decide +kernel
theorem dX3_putIntoBin_0 : decode cX3_putIntoBin 0 = .ok (.aload_n 1, 1) := by decide +kernel
theorem dX3_putIntoBin_1 : decode cX3_putIntoBin 1 = .ok (.iconst 1, 1) := by decide +kernel
theorem dX3_putIntoBin_2 : decode cX3_putIntoBin 2 = .ok (.putfield 64, 3) := by decide +kernel
theorem dX3_putIntoBin_5 : decode cX3_putIntoBin 5 = .ok (.aload_n 1, 1) := by decide +kernel
theorem dX3_putIntoBin_6 : decode cX3_putIntoBin 6 = .ok (.aload_n 0, 1) := by decide +kernel
theorem dX3_putIntoBin_7 : decode cX3_putIntoBin 7 = .ok (.getfield 42, 3) := by decide +kernel
theorem dX3_putIntoBin_10 : decode cX3_putIntoBin 10 = .ok (.putfield 70, 3) := by decide +kernel
theorem dX3_putIntoBin_13 : decode cX3_putIntoBin 13 = .ok (.aload_n 0, 1) := by decide +kernel
theorem dX3_putIntoBin_14 : decode cX3_putIntoBin 14 = .ok (.dup, 1) := by decide +kernel
theorem dX3_putIntoBin_15 : decode cX3_putIntoBin 15 = .ok (.getfield 42, 3) := by decide +kernel
theorem dX3_putIntoBin_18 : decode cX3_putIntoBin 18 = .ok (.iconst 1, 1) := by decide +kernel
theorem dX3_putIntoBin_19 : decode cX3_putIntoBin 19 = .ok (.iadd, 1) := by decide +kernel
theorem dX3_putIntoBin_20 : decode cX3_putIntoBin 20 = .ok (.putfield 42, 3) := by decide +kernel
theorem dX3_putIntoBin_23 : decode cX3_putIntoBin 23 = .ok (.return_, 1) := by decide +kernel
theorem dX3_run_0 : decode cX3_run 0 = .ok (.aload_n 0, 1) := by decide +kernel
theorem dX3_run_1 : decode cX3_run 1 = .ok (.getfield 39, 3) := by decide +kernel
theorem dX3_run_4 : decode cX3_run 4 = .ok (.iload_n 1, 1) := by decide +kernel
theorem dX3_run_5 : decode cX3_run 5 = .ok (.iadd, 1) := by decide +kernel
theorem dX3_run_6 : decode cX3_run 6 = .ok (.istore_n 3, 1) := by decide +kernel
theorem dX3_run_7 : decode cX3_run 7 = .ok (.iconst 0, 1) := by decide +kernel
theorem dX3_run_8 : decode cX3_run 8 = .ok (.istore 4, 2) := by decide +kernel
theorem dX3_run_10 : decode cX3_run 10 = .ok (.iload 4, 2) := by decide +kernel
theorem dX3_run_12 : decode cX3_run 12 = .ok (.iload_n 1, 1) := by decide +kernel
theorem dX3_run_13 : decode cX3_run 13 = .ok (.if_icmp .ge 44, 3) := by decide +kernel
theorem dX3_run_16 : decode cX3_run 16 = .ok (.aload_n 0, 1) := by decide +kernel
theorem dX3_run_17 : decode cX3_run 17 = .ok (.invokevirtual 73, 3) := by decide +kernel
theorem dX3_run_20 : decode cX3_run 20 = .ok (.istore 5, 2) := by decide +kernel
theorem dX3_run_22 : decode cX3_run 22 = .ok (.iload 5, 2) := by decide +kernel
theorem dX3_run_24 : decode cX3_run 24 = .ok (.iload_n 3, 1) := by decide +kernel
theorem dX3_run_25 : decode cX3_run 25 = .ok (.if_icmp .le 6, 3) := by decide +kernel
theorem dX3_run_28 : decode cX3_run 28 = .ok (.goto 29, 3) := by decide +kernel
theorem dX3_run_31 : decode cX3_run 31 = .ok (.aload_n 0, 1) := by decide +kernel
theorem dX3_run_32 : decode cX3_run 32 = .ok (.iload 5, 2) := by decide +kernel
theorem dX3_run_34 : decode cX3_run 34 = .ok (.putfield 39, 3) := by decide +kernel
theorem dX3_run_37 : decode cX3_run 37 = .ok (.aload_n 0, 1) := by decide +kernel
theorem dX3_run_38 : decode cX3_run 38 = .ok (.aload_n 2, 1) := by decide +kernel
theorem dX3_run_39 : decode cX3_run 39 = .ok (.invokevirtual 77, 3) := by decide +kernel
theorem dX3_run_42 : decode cX3_run 42 = .ok (.aload_n 0, 1) := by decide +kernel
theorem dX3_run_43 : decode cX3_run 43 = .ok (.invokevirtual 81, 3) := by decide +kernel
theorem dX3_run_46 : decode cX3_run 46 = .ok (.aload_n 0, 1) := by decide +kernel
theorem dX3_run_47 : decode cX3_run 47 = .ok (.aload_n 2, 1) := by decide +kernel
theorem dX3_run_48 : decode cX3_run 48 = .ok (.invokevirtual 84, 3) := by decide +kernel
theorem dX3_run_51 : decode cX3_run 51 = .ok (.iinc 4 1, 3) := by decide +kernel
theorem dX3_run_54 : decode cX3_run 54 = .ok (.goto (-44), 3) := by decide +kernel
theorem dX3_run_57 : decode cX3_run 57 = .ok (.aload_n 0, 1) := by decide +kernel
theorem dX3_run_58 : decode cX3_run 58 = .ok (.iload_n 3, 1) := by decide +kernel
theorem dX3_run_59 : decode cX3_run 59 = .ok (.putfield 39, 3) := by decide +kernel
theorem dX3_run_62 : decode cX3_run 62 = .ok (.return_, 1) := by decide +kernel
theorem dX3_nextEvent_0 : decode cX3_nextEvent 0 = .ok (.aload_n 0, 1) := by decide +kernel
theorem dX3_nextEvent_1 : decode cX3_nextEvent 1 = .ok (.invokevirtual 87, 3) := by decide +kernel
theorem dX3_nextEvent_4 : decode cX3_nextEvent 4 = .ok (.ifCond .eq 8, 3) := by decide +kernel
theorem dX3_nextEvent_7 : decode cX3_nextEvent 7 = .ok (.ldc 91, 2) := by decide +kernel
theorem dX3_nextEvent_9 : decode cX3_nextEvent 9 = .ok (.goto 7, 3) := by decide +kernel
theorem dX3_nextEvent_12 : decode cX3_nextEvent 12 = .ok (.aload_n 0, 1) := by decide +kernel
theorem dX3_nextEvent_13 : decode cX3_nextEvent 13 = .ok (.getfield 45, 3) := by decide +kernel
theorem dX3_nextEvent_16 : decode cX3_nextEvent 16 = .ok (.istore_n 1, 1) := by decide +kernel
theorem dX3_nextEvent_17 : decode cX3_nextEvent 17 = .ok (.iconst 0, 1) := by decide +kernel
theorem dX3_nextEvent_18 : decode cX3_nextEvent 18 = .ok (.istore_n 2, 1) := by decide +kernel
theorem dX3_nextEvent_19 : decode cX3_nextEvent 19 = .ok (.iload_n 2, 1) := by decide +kernel
theorem dX3_nextEvent_20 : decode cX3_nextEvent 20 = .ok (.aload_n 0, 1) := by decide +kernel
theorem dX3_nextEvent_21 : decode cX3_nextEvent 21 = .ok (.getfield 26, 3) := by decide +kernel
theorem dX3_nextEvent_24 : decode cX3_nextEvent 24 = .ok (.if_icmp .ge 32, 3) := by decide +kernel
theorem dX3_nextEvent_27 : decode cX3_nextEvent 27 = .ok (.aload_n 0, 1) := by decide +kernel
theorem dX3_nextEvent_28 : decode cX3_nextEvent 28 = .ok (.getfield 11, 3) := by decide +kernel
theorem dX3_nextEvent_31 : decode cX3_nextEvent 31 = .ok (.iload_n 2, 1) := by decide +kernel
theorem dX3_nextEvent_32 : decode cX3_nextEvent 32 = .ok (.aaload, 1) := by decide +kernel
theorem dX3_nextEvent_33 : decode cX3_nextEvent 33 = .ok (.astore_n 3, 1) := by decide +kernel
theorem dX3_nextEvent_34 : decode cX3_nextEvent 34 = .ok (.aload_n 3, 1) := by decide +kernel
theorem dX3_nextEvent_35 : decode cX3_nextEvent 35 = .ok (.getfield 64, 3) := by decide +kernel
theorem dX3_nextEvent_38 : decode cX3_nextEvent 38 = .ok (.ifCond .ne 12, 3) := by decide +kernel
theorem dX3_nextEvent_41 : decode cX3_nextEvent 41 = .ok (.iload_n 1, 1) := by decide +kernel
theorem dX3_nextEvent_42 : decode cX3_nextEvent 42 = .ok (.aload_n 3, 1) := by decide +kernel
theorem dX3_nextEvent_43 : decode cX3_nextEvent 43 = .ok (.getfield 67, 3) := by decide +kernel
theorem dX3_nextEvent_46 : decode cX3_nextEvent 46 = .ok (.invokestatic 92, 3) := by decide +kernel
theorem dX3_nextEvent_49 : decode cX3_nextEvent 49 = .ok (.istore_n 1, 1) := by decide +kernel
theorem dX3_nextEvent_50 : decode cX3_nextEvent 50 = .ok (.iinc 2 1, 3) := by decide +kernel
theorem dX3_nextEvent_53 : decode cX3_nextEvent 53 = .ok (.goto (-34), 3) := by decide +kernel
theorem dX3_nextEvent_56 : decode cX3_nextEvent 56 = .ok (.iload_n 1, 1) := by decide +kernel
theorem dX3_nextEvent_57 : decode cX3_nextEvent 57 = .ok (.ireturn, 1) := by decide +kernel
theorem dX3_finishIfDue_0 : decode cX3_finishIfDue 0 = .ok (.aload_n 0, 1) := by decide +kernel
theorem dX3_finishIfDue_1 : decode cX3_finishIfDue 1 = .ok (.invokevirtual 87, 3) := by decide +kernel
theorem dX3_finishIfDue_4 : decode cX3_finishIfDue 4 = .ok (.ifCond .ne 14, 3) := by decide +kernel
theorem dX3_finishIfDue_7 : decode cX3_finishIfDue 7 = .ok (.aload_n 0, 1) := by decide +kernel
theorem dX3_finishIfDue_8 : decode cX3_finishIfDue 8 = .ok (.getfield 45, 3) := by decide +kernel
theorem dX3_finishIfDue_11 : decode cX3_finishIfDue 11 = .ok (.aload_n 0, 1) := by decide +kernel
theorem dX3_finishIfDue_12 : decode cX3_finishIfDue 12 = .ok (.getfield 39, 3) := by decide +kernel
theorem dX3_finishIfDue_15 : decode cX3_finishIfDue 15 = .ok (.if_icmp .eq 4, 3) := by decide +kernel
theorem dX3_finishIfDue_18 : decode cX3_finishIfDue 18 = .ok (.return_, 1) := by decide +kernel
theorem dX3_finishIfDue_19 : decode cX3_finishIfDue 19 = .ok (.aload_n 0, 1) := by decide +kernel
theorem dX3_finishIfDue_20 : decode cX3_finishIfDue 20 = .ok (.getfield 11, 3) := by decide +kernel
theorem dX3_finishIfDue_23 : decode cX3_finishIfDue 23 = .ok (.aload_n 0, 1) := by decide +kernel
theorem dX3_finishIfDue_24 : decode cX3_finishIfDue 24 = .ok (.getfield 21, 3) := by decide +kernel
theorem dX3_finishIfDue_27 : decode cX3_finishIfDue 27 = .ok (.aaload, 1) := by decide +kernel
theorem dX3_finishIfDue_28 : decode cX3_finishIfDue 28 = .ok (.astore_n 2, 1) := by decide +kernel
theorem dX3_finishIfDue_29 : decode cX3_finishIfDue 29 = .ok (.aload_n 0, 1) := by decide +kernel
theorem dX3_finishIfDue_30 : decode cX3_finishIfDue 30 = .ok (.iconst (-1), 1) := by decide +kernel
theorem dX3_finishIfDue_31 : decode cX3_finishIfDue 31 = .ok (.putfield 21, 3) := by decide +kernel
theorem dX3_finishIfDue_34 : decode cX3_finishIfDue 34 = .ok (.aload_n 0, 1) := by decide +kernel
theorem dX3_finishIfDue_35 : decode cX3_finishIfDue 35 = .ok (.dup, 1) := by decide +kernel
theorem dX3_finishIfDue_36 : decode cX3_finishIfDue 36 = .ok (.getfield 48, 3) := by decide +kernel
theorem dX3_finishIfDue_39 : decode cX3_finishIfDue 39 = .ok (.aload_n 2, 1) := by decide +kernel
theorem dX3_finishIfDue_40 : decode cX3_finishIfDue 40 = .ok (.aload_n 1, 1) := by decide +kernel
theorem dX3_finishIfDue_41 : decode cX3_finishIfDue 41 = .ok (.getfield 98, 3) := by decide +kernel
theorem dX3_finishIfDue_44 : decode cX3_finishIfDue 44 = .ok (.invokevirtual 103, 3) := by decide +kernel
theorem dX3_finishIfDue_47 : decode cX3_finishIfDue 47 = .ok (.iadd, 1) := by decide +kernel
theorem dX3_finishIfDue_48 : decode cX3_finishIfDue 48 = .ok (.putfield 48, 3) := by decide +kernel
theorem dX3_finishIfDue_51 : decode cX3_finishIfDue 51 = .ok (.aload_n 2, 1) := by decide +kernel
theorem dX3_finishIfDue_52 : decode cX3_finishIfDue 52 = .ok (.aload_n 1, 1) := by decide +kernel
theorem dX3_finishIfDue_53 : decode cX3_finishIfDue 53 = .ok (.getfield 107, 3) := by decide +kernel
theorem dX3_finishIfDue_56 : decode cX3_finishIfDue 56 = .ok (.invokevirtual 111, 3) := by decide +kernel
theorem dX3_finishIfDue_59 : decode cX3_finishIfDue 59 = .ok (.aload_n 2, 1) := by decide +kernel
theorem dX3_finishIfDue_60 : decode cX3_finishIfDue 60 = .ok (.aload_n 1, 1) := by decide +kernel
theorem dX3_finishIfDue_61 : decode cX3_finishIfDue 61 = .ok (.getfield 115, 3) := by decide +kernel
theorem dX3_finishIfDue_64 : decode cX3_finishIfDue 64 = .ok (.aload_n 0, 1) := by decide +kernel
theorem dX3_finishIfDue_65 : decode cX3_finishIfDue 65 = .ok (.getfield 17, 3) := by decide +kernel
theorem dX3_finishIfDue_68 : decode cX3_finishIfDue 68 = .ok (.invokevirtual 118, 3) := by decide +kernel
theorem dX3_finishIfDue_71 : decode cX3_finishIfDue 71 = .ok (.aload_n 2, 1) := by decide +kernel
theorem dX3_finishIfDue_72 : decode cX3_finishIfDue 72 = .ok (.dup, 1) := by decide +kernel
theorem dX3_finishIfDue_73 : decode cX3_finishIfDue 73 = .ok (.getfield 61, 3) := by decide +kernel
theorem dX3_finishIfDue_76 : decode cX3_finishIfDue 76 = .ok (.iconst 1, 1) := by decide +kernel
theorem dX3_finishIfDue_77 : decode cX3_finishIfDue 77 = .ok (.iadd, 1) := by decide +kernel
theorem dX3_finishIfDue_78 : decode cX3_finishIfDue 78 = .ok (.putfield 61, 3) := by decide +kernel
theorem dX3_finishIfDue_81 : decode cX3_finishIfDue 81 = .ok (.aload_n 2, 1) := by decide +kernel
theorem dX3_finishIfDue_82 : decode cX3_finishIfDue 82 = .ok (.getfield 58, 3) := by decide +kernel
theorem dX3_finishIfDue_85 : decode cX3_finishIfDue 85 = .ok (.invokestatic 122, 3) := by decide +kernel
theorem dX3_finishIfDue_88 : decode cX3_finishIfDue 88 = .ok (.istore_n 3, 1) := by decide +kernel
theorem dX3_finishIfDue_89 : decode cX3_finishIfDue 89 = .ok (.aload_n 0, 1) := by decide +kernel
theorem dX3_finishIfDue_90 : decode cX3_finishIfDue 90 = .ok (.dup, 1) := by decide +kernel
theorem dX3_finishIfDue_91 : decode cX3_finishIfDue 91 = .ok (.getfield 51, 3) := by decide +kernel
theorem dX3_finishIfDue_94 : decode cX3_finishIfDue 94 = .ok (.iload_n 3, 1) := by decide +kernel
theorem dX3_finishIfDue_95 : decode cX3_finishIfDue 95 = .ok (.iadd, 1) := by decide +kernel
theorem dX3_finishIfDue_96 : decode cX3_finishIfDue 96 = .ok (.putfield 51, 3) := by decide +kernel
theorem dX3_finishIfDue_99 : decode cX3_finishIfDue 99 = .ok (.iload_n 3, 1) := by decide +kernel
theorem dX3_finishIfDue_100 : decode cX3_finishIfDue 100 = .ok (.ifCond .ne 11, 3) := by decide +kernel
theorem dX3_finishIfDue_103 : decode cX3_finishIfDue 103 = .ok (.aload_n 2, 1) := by decide +kernel
theorem dX3_finishIfDue_104 : decode cX3_finishIfDue 104 = .ok (.iconst 3, 1) := by decide +kernel
theorem dX3_finishIfDue_105 : decode cX3_finishIfDue 105 = .ok (.putfield 64, 3) := by decide +kernel
theorem dX3_finishIfDue_108 : decode cX3_finishIfDue 108 = .ok (.goto 8, 3) := by decide +kernel
theorem dX3_finishIfDue_111 : decode cX3_finishIfDue 111 = .ok (.aload_n 0, 1) := by decide +kernel
theorem dX3_finishIfDue_112 : decode cX3_finishIfDue 112 = .ok (.aload_n 2, 1) := by decide +kernel
theorem dX3_finishIfDue_113 : decode cX3_finishIfDue 113 = .ok (.invokevirtual 125, 3) := by decide +kernel
theorem dX3_finishIfDue_116 : decode cX3_finishIfDue 116 = .ok (.return_, 1) := by decide +kernel
theorem dX3_takePlannedLots_0 : decode cX3_takePlannedLots 0 = .ok (.iconst 0, 1) := by decide +kernel
theorem dX3_takePlannedLots_1 : decode cX3_takePlannedLots 1 = .ok (.istore_n 1, 1) := by decide +kernel
theorem dX3_takePlannedLots_2 : decode cX3_takePlannedLots 2 = .ok (.iload_n 1, 1) := by decide +kernel
theorem dX3_takePlannedLots_3 : decode cX3_takePlannedLots 3 = .ok (.aload_n 0, 1) := by decide +kernel
theorem dX3_takePlannedLots_4 : decode cX3_takePlannedLots 4 = .ok (.getfield 26, 3) := by decide +kernel
theorem dX3_takePlannedLots_7 : decode cX3_takePlannedLots 7 = .ok (.if_icmp .ge 39, 3) := by decide +kernel
theorem dX3_takePlannedLots_10 : decode cX3_takePlannedLots 10 = .ok (.aload_n 0, 1) := by decide +kernel
theorem dX3_takePlannedLots_11 : decode cX3_takePlannedLots 11 = .ok (.getfield 11, 3) := by decide +kernel
theorem dX3_takePlannedLots_14 : decode cX3_takePlannedLots 14 = .ok (.iload_n 1, 1) := by decide +kernel
theorem dX3_takePlannedLots_15 : decode cX3_takePlannedLots 15 = .ok (.aaload, 1) := by decide +kernel
theorem dX3_takePlannedLots_16 : decode cX3_takePlannedLots 16 = .ok (.astore_n 2, 1) := by decide +kernel
theorem dX3_takePlannedLots_17 : decode cX3_takePlannedLots 17 = .ok (.aload_n 2, 1) := by decide +kernel
theorem dX3_takePlannedLots_18 : decode cX3_takePlannedLots 18 = .ok (.getfield 64, 3) := by decide +kernel
theorem dX3_takePlannedLots_21 : decode cX3_takePlannedLots 21 = .ok (.ifCond .ne 19, 3) := by decide +kernel
theorem dX3_takePlannedLots_24 : decode cX3_takePlannedLots 24 = .ok (.aload_n 2, 1) := by decide +kernel
theorem dX3_takePlannedLots_25 : decode cX3_takePlannedLots 25 = .ok (.getfield 67, 3) := by decide +kernel
theorem dX3_takePlannedLots_28 : decode cX3_takePlannedLots 28 = .ok (.aload_n 0, 1) := by decide +kernel
theorem dX3_takePlannedLots_29 : decode cX3_takePlannedLots 29 = .ok (.getfield 39, 3) := by decide +kernel
theorem dX3_takePlannedLots_32 : decode cX3_takePlannedLots 32 = .ok (.if_icmp .ne 8, 3) := by decide +kernel
theorem dX3_takePlannedLots_35 : decode cX3_takePlannedLots 35 = .ok (.aload_n 0, 1) := by decide +kernel
theorem dX3_takePlannedLots_36 : decode cX3_takePlannedLots 36 = .ok (.aload_n 2, 1) := by decide +kernel
theorem dX3_takePlannedLots_37 : decode cX3_takePlannedLots 37 = .ok (.invokevirtual 125, 3) := by decide +kernel
theorem dX3_takePlannedLots_40 : decode cX3_takePlannedLots 40 = .ok (.iinc 1 1, 3) := by decide +kernel
theorem dX3_takePlannedLots_43 : decode cX3_takePlannedLots 43 = .ok (.goto (-41), 3) := by decide +kernel
theorem dX3_takePlannedLots_46 : decode cX3_takePlannedLots 46 = .ok (.return_, 1) := by decide +kernel
theorem dX3_startIfIdle_0 : decode cX3_startIfIdle 0 = .ok (.aload_n 0, 1) := by decide +kernel
theorem dX3_startIfIdle_1 : decode cX3_startIfIdle 1 = .ok (.invokevirtual 87, 3) := by decide +kernel
theorem dX3_startIfIdle_4 : decode cX3_startIfIdle 4 = .ok (.ifCond .ne 4, 3) := by decide +kernel
theorem dX3_startIfIdle_7 : decode cX3_startIfIdle 7 = .ok (.return_, 1) := by decide +kernel
theorem dX3_startIfIdle_8 : decode cX3_startIfIdle 8 = .ok (.aload_n 0, 1) := by decide +kernel
theorem dX3_startIfIdle_9 : decode cX3_startIfIdle 9 = .ok (.aload_n 1, 1) := by decide +kernel
theorem dX3_startIfIdle_10 : decode cX3_startIfIdle 10 = .ok (.getfield 128, 3) := by decide +kernel
theorem dX3_startIfIdle_13 : decode cX3_startIfIdle 13 = .ok (.invokevirtual 131, 3) := by decide +kernel
theorem dX3_startIfIdle_16 : decode cX3_startIfIdle 16 = .ok (.istore_n 2, 1) := by decide +kernel
theorem dX3_startIfIdle_17 : decode cX3_startIfIdle 17 = .ok (.aload_n 0, 1) := by decide +kernel
theorem dX3_startIfIdle_18 : decode cX3_startIfIdle 18 = .ok (.iload_n 2, 1) := by decide +kernel
theorem dX3_startIfIdle_19 : decode cX3_startIfIdle 19 = .ok (.invokevirtual 54, 3) := by decide +kernel
theorem dX3_startIfIdle_22 : decode cX3_startIfIdle 22 = .ok (.ifCond .ne 4, 3) := by decide +kernel
theorem dX3_startIfIdle_25 : decode cX3_startIfIdle 25 = .ok (.return_, 1) := by decide +kernel
theorem dX3_startIfIdle_26 : decode cX3_startIfIdle 26 = .ok (.aload_n 0, 1) := by decide +kernel
theorem dX3_startIfIdle_27 : decode cX3_startIfIdle 27 = .ok (.getfield 11, 3) := by decide +kernel
theorem dX3_startIfIdle_30 : decode cX3_startIfIdle 30 = .ok (.iload_n 2, 1) := by decide +kernel
theorem dX3_startIfIdle_31 : decode cX3_startIfIdle 31 = .ok (.aaload, 1) := by decide +kernel
theorem dX3_startIfIdle_32 : decode cX3_startIfIdle 32 = .ok (.astore_n 3, 1) := by decide +kernel
theorem dX3_startIfIdle_33 : decode cX3_startIfIdle 33 = .ok (.aload_n 3, 1) := by decide +kernel
theorem dX3_startIfIdle_34 : decode cX3_startIfIdle 34 = .ok (.iconst 2, 1) := by decide +kernel
theorem dX3_startIfIdle_35 : decode cX3_startIfIdle 35 = .ok (.putfield 64, 3) := by decide +kernel
theorem dX3_startIfIdle_38 : decode cX3_startIfIdle 38 = .ok (.aload_n 0, 1) := by decide +kernel
theorem dX3_startIfIdle_39 : decode cX3_startIfIdle 39 = .ok (.iload_n 2, 1) := by decide +kernel
theorem dX3_startIfIdle_40 : decode cX3_startIfIdle 40 = .ok (.putfield 21, 3) := by decide +kernel
theorem dX3_startIfIdle_43 : decode cX3_startIfIdle 43 = .ok (.aload_n 0, 1) := by decide +kernel
theorem dX3_startIfIdle_44 : decode cX3_startIfIdle 44 = .ok (.aload_n 0, 1) := by decide +kernel
theorem dX3_startIfIdle_45 : decode cX3_startIfIdle 45 = .ok (.getfield 39, 3) := by decide +kernel
theorem dX3_startIfIdle_48 : decode cX3_startIfIdle 48 = .ok (.aload_n 3, 1) := by decide +kernel
theorem dX3_startIfIdle_49 : decode cX3_startIfIdle 49 = .ok (.getfield 58, 3) := by decide +kernel
theorem dX3_startIfIdle_52 : decode cX3_startIfIdle 52 = .ok (.invokestatic 122, 3) := by decide +kernel
theorem dX3_startIfIdle_55 : decode cX3_startIfIdle 55 = .ok (.aload_n 1, 1) := by decide +kernel
theorem dX3_startIfIdle_56 : decode cX3_startIfIdle 56 = .ok (.getfield 135, 3) := by decide +kernel
theorem dX3_startIfIdle_59 : decode cX3_startIfIdle 59 = .ok (.invokestatic 138, 3) := by decide +kernel
theorem dX3_startIfIdle_62 : decode cX3_startIfIdle 62 = .ok (.iadd, 1) := by decide +kernel
theorem dX3_startIfIdle_63 : decode cX3_startIfIdle 63 = .ok (.putfield 45, 3) := by decide +kernel
theorem dX3_startIfIdle_66 : decode cX3_startIfIdle 66 = .ok (.return_, 1) := by decide +kernel
theorem dX3_minutesToGrind_0 : decode cX3_minutesToGrind 0 = .ok (.iconst 1, 1) := by decide +kernel
theorem dX3_minutesToGrind_1 : decode cX3_minutesToGrind 1 = .ok (.iload_n 1, 1) := by decide +kernel
theorem dX3_minutesToGrind_2 : decode cX3_minutesToGrind 2 = .ok (.invokestatic 141, 3) := by decide +kernel
theorem dX3_minutesToGrind_5 : decode cX3_minutesToGrind 5 = .ok (.istore_n 2, 1) := by decide +kernel
theorem dX3_minutesToGrind_6 : decode cX3_minutesToGrind 6 = .ok (.iload_n 0, 1) := by decide +kernel
theorem dX3_minutesToGrind_7 : decode cX3_minutesToGrind 7 = .ok (.iload_n 2, 1) := by decide +kernel
theorem dX3_minutesToGrind_8 : decode cX3_minutesToGrind 8 = .ok (.iadd, 1) := by decide +kernel
theorem dX3_minutesToGrind_9 : decode cX3_minutesToGrind 9 = .ok (.iconst 1, 1) := by decide +kernel
theorem dX3_minutesToGrind_10 : decode cX3_minutesToGrind 10 = .ok (.isub, 1) := by decide +kernel
theorem dX3_minutesToGrind_11 : decode cX3_minutesToGrind 11 = .ok (.iload_n 2, 1) := by decide +kernel
theorem dX3_minutesToGrind_12 : decode cX3_minutesToGrind 12 = .ok (.idiv, 1) := by decide +kernel
theorem dX3_minutesToGrind_13 : decode cX3_minutesToGrind 13 = .ok (.ireturn, 1) := by decide +kernel
theorem dX3_countBin_0 : decode cX3_countBin 0 = .ok (.iconst 0, 1) := by decide +kernel
theorem dX3_countBin_1 : decode cX3_countBin 1 = .ok (.istore_n 1, 1) := by decide +kernel
theorem dX3_countBin_2 : decode cX3_countBin 2 = .ok (.iconst 0, 1) := by decide +kernel
theorem dX3_countBin_3 : decode cX3_countBin 3 = .ok (.istore_n 2, 1) := by decide +kernel
theorem dX3_countBin_4 : decode cX3_countBin 4 = .ok (.iload_n 2, 1) := by decide +kernel
theorem dX3_countBin_5 : decode cX3_countBin 5 = .ok (.aload_n 0, 1) := by decide +kernel
theorem dX3_countBin_6 : decode cX3_countBin 6 = .ok (.getfield 26, 3) := by decide +kernel
theorem dX3_countBin_9 : decode cX3_countBin 9 = .ok (.if_icmp .ge 25, 3) := by decide +kernel
theorem dX3_countBin_12 : decode cX3_countBin 12 = .ok (.aload_n 0, 1) := by decide +kernel
theorem dX3_countBin_13 : decode cX3_countBin 13 = .ok (.getfield 11, 3) := by decide +kernel
theorem dX3_countBin_16 : decode cX3_countBin 16 = .ok (.iload_n 2, 1) := by decide +kernel
theorem dX3_countBin_17 : decode cX3_countBin 17 = .ok (.aaload, 1) := by decide +kernel
theorem dX3_countBin_18 : decode cX3_countBin 18 = .ok (.getfield 64, 3) := by decide +kernel
theorem dX3_countBin_21 : decode cX3_countBin 21 = .ok (.iconst 1, 1) := by decide +kernel
theorem dX3_countBin_22 : decode cX3_countBin 22 = .ok (.if_icmp .ne 6, 3) := by decide +kernel
theorem dX3_countBin_25 : decode cX3_countBin 25 = .ok (.iinc 1 1, 3) := by decide +kernel
theorem dX3_countBin_28 : decode cX3_countBin 28 = .ok (.iinc 2 1, 3) := by decide +kernel
theorem dX3_countBin_31 : decode cX3_countBin 31 = .ok (.goto (-27), 3) := by decide +kernel
theorem dX3_countBin_34 : decode cX3_countBin 34 = .ok (.iload_n 1, 1) := by decide +kernel
theorem dX3_countBin_35 : decode cX3_countBin 35 = .ok (.ireturn, 1) := by decide +kernel
theorem dX3_firstOfBin_0 : decode cX3_firstOfBin 0 = .ok (.iconst (-1), 1) := by decide +kernel
theorem dX3_firstOfBin_1 : decode cX3_firstOfBin 1 = .ok (.istore_n 2, 1) := by decide +kernel
theorem dX3_firstOfBin_2 : decode cX3_firstOfBin 2 = .ok (.iconst 0, 1) := by decide +kernel
theorem dX3_firstOfBin_3 : decode cX3_firstOfBin 3 = .ok (.istore_n 3, 1) := by decide +kernel
theorem dX3_firstOfBin_4 : decode cX3_firstOfBin 4 = .ok (.iload_n 3, 1) := by decide +kernel
theorem dX3_firstOfBin_5 : decode cX3_firstOfBin 5 = .ok (.aload_n 0, 1) := by decide +kernel
theorem dX3_firstOfBin_6 : decode cX3_firstOfBin 6 = .ok (.getfield 26, 3) := by decide +kernel
theorem dX3_firstOfBin_9 : decode cX3_firstOfBin 9 = .ok (.if_icmp .ge 48, 3) := by decide +kernel
theorem dX3_firstOfBin_12 : decode cX3_firstOfBin 12 = .ok (.aload_n 0, 1) := by decide +kernel
theorem dX3_firstOfBin_13 : decode cX3_firstOfBin 13 = .ok (.getfield 11, 3) := by decide +kernel
theorem dX3_firstOfBin_16 : decode cX3_firstOfBin 16 = .ok (.iload_n 3, 1) := by decide +kernel
theorem dX3_firstOfBin_17 : decode cX3_firstOfBin 17 = .ok (.aaload, 1) := by decide +kernel
theorem dX3_firstOfBin_18 : decode cX3_firstOfBin 18 = .ok (.astore 4, 2) := by decide +kernel
theorem dX3_firstOfBin_20 : decode cX3_firstOfBin 20 = .ok (.aload 4, 2) := by decide +kernel
theorem dX3_firstOfBin_22 : decode cX3_firstOfBin 22 = .ok (.getfield 64, 3) := by decide +kernel
theorem dX3_firstOfBin_25 : decode cX3_firstOfBin 25 = .ok (.iconst 1, 1) := by decide +kernel
theorem dX3_firstOfBin_26 : decode cX3_firstOfBin 26 = .ok (.if_icmp .ne 25, 3) := by decide +kernel
theorem dX3_firstOfBin_29 : decode cX3_firstOfBin 29 = .ok (.iload_n 2, 1) := by decide +kernel
theorem dX3_firstOfBin_30 : decode cX3_firstOfBin 30 = .ok (.iconst (-1), 1) := by decide +kernel
theorem dX3_firstOfBin_31 : decode cX3_firstOfBin 31 = .ok (.if_icmp .eq 18, 3) := by decide +kernel
theorem dX3_firstOfBin_34 : decode cX3_firstOfBin 34 = .ok (.aload 4, 2) := by decide +kernel
theorem dX3_firstOfBin_36 : decode cX3_firstOfBin 36 = .ok (.aload_n 0, 1) := by decide +kernel
theorem dX3_firstOfBin_37 : decode cX3_firstOfBin 37 = .ok (.getfield 11, 3) := by decide +kernel
theorem dX3_firstOfBin_40 : decode cX3_firstOfBin 40 = .ok (.iload_n 2, 1) := by decide +kernel
theorem dX3_firstOfBin_41 : decode cX3_firstOfBin 41 = .ok (.aaload, 1) := by decide +kernel
theorem dX3_firstOfBin_42 : decode cX3_firstOfBin 42 = .ok (.iload_n 1, 1) := by decide +kernel
theorem dX3_firstOfBin_43 : decode cX3_firstOfBin 43 = .ok (.invokevirtual 144, 3) := by decide +kernel
theorem dX3_firstOfBin_46 : decode cX3_firstOfBin 46 = .ok (.ifCond .eq 5, 3) := by decide +kernel
theorem dX3_firstOfBin_49 : decode cX3_firstOfBin 49 = .ok (.iload_n 3, 1) := by decide +kernel
theorem dX3_firstOfBin_50 : decode cX3_firstOfBin 50 = .ok (.istore_n 2, 1) := by decide +kernel
theorem dX3_firstOfBin_51 : decode cX3_firstOfBin 51 = .ok (.iinc 3 1, 3) := by decide +kernel
theorem dX3_firstOfBin_54 : decode cX3_firstOfBin 54 = .ok (.goto (-50), 3) := by decide +kernel
theorem dX3_firstOfBin_57 : decode cX3_firstOfBin 57 = .ok (.iload_n 2, 1) := by decide +kernel
theorem dX3_firstOfBin_58 : decode cX3_firstOfBin 58 = .ok (.ireturn, 1) := by decide +kernel
theorem dX3_lotAt_0 : decode cX3_lotAt 0 = .ok (.iconst 0, 1) := by decide +kernel
theorem dX3_lotAt_1 : decode cX3_lotAt 1 = .ok (.istore_n 3, 1) := by decide +kernel
theorem dX3_lotAt_2 : decode cX3_lotAt 2 = .ok (.iload_n 3, 1) := by decide +kernel
theorem dX3_lotAt_3 : decode cX3_lotAt 3 = .ok (.aload_n 0, 1) := by decide +kernel
theorem dX3_lotAt_4 : decode cX3_lotAt 4 = .ok (.getfield 26, 3) := by decide +kernel
theorem dX3_lotAt_7 : decode cX3_lotAt 7 = .ok (.if_icmp .ge 39, 3) := by decide +kernel
theorem dX3_lotAt_10 : decode cX3_lotAt 10 = .ok (.aload_n 0, 1) := by decide +kernel
theorem dX3_lotAt_11 : decode cX3_lotAt 11 = .ok (.getfield 11, 3) := by decide +kernel
theorem dX3_lotAt_14 : decode cX3_lotAt 14 = .ok (.iload_n 3, 1) := by decide +kernel
theorem dX3_lotAt_15 : decode cX3_lotAt 15 = .ok (.aaload, 1) := by decide +kernel
theorem dX3_lotAt_16 : decode cX3_lotAt 16 = .ok (.astore 4, 2) := by decide +kernel
theorem dX3_lotAt_18 : decode cX3_lotAt 18 = .ok (.aload 4, 2) := by decide +kernel
theorem dX3_lotAt_20 : decode cX3_lotAt 20 = .ok (.getfield 64, 3) := by decide +kernel
theorem dX3_lotAt_23 : decode cX3_lotAt 23 = .ok (.iconst 1, 1) := by decide +kernel
theorem dX3_lotAt_24 : decode cX3_lotAt 24 = .ok (.if_icmp .ne 16, 3) := by decide +kernel
theorem dX3_lotAt_27 : decode cX3_lotAt 27 = .ok (.aload_n 0, 1) := by decide +kernel
theorem dX3_lotAt_28 : decode cX3_lotAt 28 = .ok (.aload 4, 2) := by decide +kernel
theorem dX3_lotAt_30 : decode cX3_lotAt 30 = .ok (.iload_n 2, 1) := by decide +kernel
theorem dX3_lotAt_31 : decode cX3_lotAt 31 = .ok (.invokevirtual 148, 3) := by decide +kernel
theorem dX3_lotAt_34 : decode cX3_lotAt 34 = .ok (.iload_n 1, 1) := by decide +kernel
theorem dX3_lotAt_35 : decode cX3_lotAt 35 = .ok (.if_icmp .ne 5, 3) := by decide +kernel
theorem dX3_lotAt_38 : decode cX3_lotAt 38 = .ok (.iload_n 3, 1) := by decide +kernel
theorem dX3_lotAt_39 : decode cX3_lotAt 39 = .ok (.ireturn, 1) := by decide +kernel
theorem dX3_lotAt_40 : decode cX3_lotAt 40 = .ok (.iinc 3 1, 3) := by decide +kernel
theorem dX3_lotAt_43 : decode cX3_lotAt 43 = .ok (.goto (-41), 3) := by decide +kernel
theorem dX3_lotAt_46 : decode cX3_lotAt 46 = .ok (.iconst (-1), 1) := by decide +kernel
theorem dX3_lotAt_47 : decode cX3_lotAt 47 = .ok (.ireturn, 1) := by decide +kernel
theorem dX3_countBefore_0 : decode cX3_countBefore 0 = .ok (.iconst 0, 1) := by decide +kernel
theorem dX3_countBefore_1 : decode cX3_countBefore 1 = .ok (.istore_n 3, 1) := by decide +kernel
theorem dX3_countBefore_2 : decode cX3_countBefore 2 = .ok (.iconst 0, 1) := by decide +kernel
theorem dX3_countBefore_3 : decode cX3_countBefore 3 = .ok (.istore 4, 2) := by decide +kernel
theorem dX3_countBefore_5 : decode cX3_countBefore 5 = .ok (.iload 4, 2) := by decide +kernel
theorem dX3_countBefore_7 : decode cX3_countBefore 7 = .ok (.aload_n 0, 1) := by decide +kernel
theorem dX3_countBefore_8 : decode cX3_countBefore 8 = .ok (.getfield 26, 3) := by decide +kernel
theorem dX3_countBefore_11 : decode cX3_countBefore 11 = .ok (.if_icmp .ge 40, 3) := by decide +kernel
theorem dX3_countBefore_14 : decode cX3_countBefore 14 = .ok (.aload_n 0, 1) := by decide +kernel
theorem dX3_countBefore_15 : decode cX3_countBefore 15 = .ok (.getfield 11, 3) := by decide +kernel
theorem dX3_countBefore_18 : decode cX3_countBefore 18 = .ok (.iload 4, 2) := by decide +kernel
theorem dX3_countBefore_20 : decode cX3_countBefore 20 = .ok (.aaload, 1) := by decide +kernel
theorem dX3_countBefore_21 : decode cX3_countBefore 21 = .ok (.astore 5, 2) := by decide +kernel
theorem dX3_countBefore_23 : decode cX3_countBefore 23 = .ok (.aload 5, 2) := by decide +kernel
theorem dX3_countBefore_25 : decode cX3_countBefore 25 = .ok (.getfield 64, 3) := by decide +kernel
theorem dX3_countBefore_28 : decode cX3_countBefore 28 = .ok (.iconst 1, 1) := by decide +kernel
theorem dX3_countBefore_29 : decode cX3_countBefore 29 = .ok (.if_icmp .ne 16, 3) := by decide +kernel
theorem dX3_countBefore_32 : decode cX3_countBefore 32 = .ok (.aload 5, 2) := by decide +kernel
theorem dX3_countBefore_34 : decode cX3_countBefore 34 = .ok (.aload_n 1, 1) := by decide +kernel
theorem dX3_countBefore_35 : decode cX3_countBefore 35 = .ok (.iload_n 2, 1) := by decide +kernel
theorem dX3_countBefore_36 : decode cX3_countBefore 36 = .ok (.invokevirtual 144, 3) := by decide +kernel
theorem dX3_countBefore_39 : decode cX3_countBefore 39 = .ok (.ifCond .eq 6, 3) := by decide +kernel
theorem dX3_countBefore_42 : decode cX3_countBefore 42 = .ok (.iinc 3 1, 3) := by decide +kernel
theorem dX3_countBefore_45 : decode cX3_countBefore 45 = .ok (.iinc 4 1, 3) := by decide +kernel
theorem dX3_countBefore_48 : decode cX3_countBefore 48 = .ok (.goto (-43), 3) := by decide +kernel
theorem dX3_countBefore_51 : decode cX3_countBefore 51 = .ok (.iload_n 3, 1) := by decide +kernel
theorem dX3_countBefore_52 : decode cX3_countBefore 52 = .ok (.ireturn, 1) := by decide +kernel
theorem dX4_init_0 : decode cX4_init 0 = .ok (.aload_n 0, 1) := by decide +kernel
theorem dX4_init_1 : decode cX4_init 1 = .ok (.invokespecial 3, 3) := by decide +kernel
theorem dX4_init_4 : decode cX4_init 4 = .ok (.aload_n 0, 1) := by decide +kernel
theorem dX4_init_5 : decode cX4_init 5 = .ok (.iconst 4, 1) := by decide +kernel
theorem dX4_init_6 : decode cX4_init 6 = .ok (.newarray .long, 2) := by decide +kernel
theorem dX4_init_8 : decode cX4_init 8 = .ok (.putfield 9, 3) := by decide +kernel
theorem dX4_init_11 : decode cX4_init 11 = .ok (.aload_n 0, 1) := by decide +kernel
theorem dX4_init_12 : decode cX4_init 12 = .ok (.iconst 4, 1) := by decide +kernel
theorem dX4_init_13 : decode cX4_init 13 = .ok (.newarray .int, 2) := by decide +kernel
theorem dX4_init_15 : decode cX4_init 15 = .ok (.putfield 15, 3) := by decide +kernel
theorem dX4_init_18 : decode cX4_init 18 = .ok (.aload_n 0, 1) := by decide +kernel
theorem dX4_init_19 : decode cX4_init 19 = .ok (.lconst 1, 1) := by decide +kernel
theorem dX4_init_20 : decode cX4_init 20 = .ok (.putfield 19, 3) := by decide +kernel
theorem dX4_init_23 : decode cX4_init 23 = .ok (.aload_n 0, 1) := by decide +kernel
theorem dX4_init_24 : decode cX4_init 24 = .ok (.iconst 1, 1) := by decide +kernel
theorem dX4_init_25 : decode cX4_init 25 = .ok (.putfield 23, 3) := by decide +kernel
theorem dX4_init_28 : decode cX4_init 28 = .ok (.return_, 1) := by decide +kernel
theorem dX4_solveCut_0 : decode cX4_solveCut 0 = .ok (.iconst 0, 1) := by decide +kernel
theorem dX4_solveCut_1 : decode cX4_solveCut 1 = .ok (.istore_n 3, 1) := by decide +kernel
theorem dX4_solveCut_2 : decode cX4_solveCut 2 = .ok (.iload_n 3, 1) := by decide +kernel
theorem dX4_solveCut_3 : decode cX4_solveCut 3 = .ok (.iconst 4, 1) := by decide +kernel
theorem dX4_solveCut_4 : decode cX4_solveCut 4 = .ok (.if_icmp .ge 26, 3) := by decide +kernel
theorem dX4_solveCut_7 : decode cX4_solveCut 7 = .ok (.aload_n 0, 1) := by decide +kernel
theorem dX4_solveCut_8 : decode cX4_solveCut 8 = .ok (.getfield 15, 3) := by decide +kernel
theorem dX4_solveCut_11 : decode cX4_solveCut 11 = .ok (.iload_n 3, 1) := by decide +kernel
theorem dX4_solveCut_12 : decode cX4_solveCut 12 = .ok (.iload_n 3, 1) := by decide +kernel
theorem dX4_solveCut_13 : decode cX4_solveCut 13 = .ok (.iload_n 2, 1) := by decide +kernel
theorem dX4_solveCut_14 : decode cX4_solveCut 14 = .ok (.if_icmp .ge 8, 3) := by decide +kernel
theorem dX4_solveCut_17 : decode cX4_solveCut 17 = .ok (.bipush 10, 2) := by decide +kernel
theorem dX4_solveCut_19 : decode cX4_solveCut 19 = .ok (.goto 4, 3) := by decide +kernel
theorem dX4_solveCut_22 : decode cX4_solveCut 22 = .ok (.iconst 0, 1) := by decide +kernel
theorem dX4_solveCut_23 : decode cX4_solveCut 23 = .ok (.iastore, 1) := by decide +kernel
theorem dX4_solveCut_24 : decode cX4_solveCut 24 = .ok (.iinc 3 1, 3) := by decide +kernel
theorem dX4_solveCut_27 : decode cX4_solveCut 27 = .ok (.goto (-25), 3) := by decide +kernel
theorem dX4_solveCut_30 : decode cX4_solveCut 30 = .ok (.aload_n 0, 1) := by decide +kernel
theorem dX4_solveCut_31 : decode cX4_solveCut 31 = .ok (.aload_n 1, 1) := by decide +kernel
theorem dX4_solveCut_32 : decode cX4_solveCut 32 = .ok (.aload_n 0, 1) := by decide +kernel
theorem dX4_solveCut_33 : decode cX4_solveCut 33 = .ok (.getfield 15, 3) := by decide +kernel
theorem dX4_solveCut_36 : decode cX4_solveCut 36 = .ok (.invokevirtual 27, 3) := by decide +kernel
theorem dX4_solveCut_39 : decode cX4_solveCut 39 = .ok (.return_, 1) := by decide +kernel
theorem dX4_solve_0 : decode cX4_solve 0 = .ok (.aload_n 0, 1) := by decide +kernel
theorem dX4_solve_1 : decode cX4_solve 1 = .ok (.lconst 1, 1) := by decide +kernel
theorem dX4_solve_2 : decode cX4_solve 2 = .ok (.putfield 19, 3) := by decide +kernel
theorem dX4_solve_5 : decode cX4_solve 5 = .ok (.aload_n 0, 1) := by decide +kernel
theorem dX4_solve_6 : decode cX4_solve 6 = .ok (.iconst 1, 1) := by decide +kernel
theorem dX4_solve_7 : decode cX4_solve 7 = .ok (.putfield 23, 3) := by decide +kernel
theorem dX4_solve_10 : decode cX4_solve 10 = .ok (.iconst 0, 1) := by decide +kernel
theorem dX4_solve_11 : decode cX4_solve 11 = .ok (.istore_n 3, 1) := by decide +kernel
theorem dX4_solve_12 : decode cX4_solve 12 = .ok (.iload_n 3, 1) := by decide +kernel
theorem dX4_solve_13 : decode cX4_solve 13 = .ok (.iconst 4, 1) := by decide +kernel
theorem dX4_solve_14 : decode cX4_solve 14 = .ok (.if_icmp .ge 18, 3) := by decide +kernel
theorem dX4_solve_17 : decode cX4_solve 17 = .ok (.aload_n 0, 1) := by decide +kernel
theorem dX4_solve_18 : decode cX4_solve 18 = .ok (.aload_n 1, 1) := by decide +kernel
theorem dX4_solve_19 : decode cX4_solve 19 = .ok (.iload_n 3, 1) := by decide +kernel
theorem dX4_solve_20 : decode cX4_solve 20 = .ok (.aload_n 2, 1) := by decide +kernel
theorem dX4_solve_21 : decode cX4_solve 21 = .ok (.iload_n 3, 1) := by decide +kernel
theorem dX4_solve_22 : decode cX4_solve 22 = .ok (.iaload, 1) := by decide +kernel
theorem dX4_solve_23 : decode cX4_solve 23 = .ok (.invokevirtual 31, 3) := by decide +kernel
theorem dX4_solve_26 : decode cX4_solve 26 = .ok (.iinc 3 1, 3) := by decide +kernel
theorem dX4_solve_29 : decode cX4_solve 29 = .ok (.goto (-17), 3) := by decide +kernel
theorem dX4_solve_32 : decode cX4_solve 32 = .ok (.return_, 1) := by decide +kernel
theorem dX4_solveSize_0 : decode cX4_solveSize 0 = .ok (.aload_n 0, 1) := by decide +kernel
theorem dX4_solveSize_1 : decode cX4_solveSize 1 = .ok (.aload_n 1, 1) := by decide +kernel
theorem dX4_solveSize_2 : decode cX4_solveSize 2 = .ok (.iload_n 2, 1) := by decide +kernel
theorem dX4_solveSize_3 : decode cX4_solveSize 3 = .ok (.invokevirtual 35, 3) := by decide +kernel
theorem dX4_solveSize_6 : decode cX4_solveSize 6 = .ok (.lstore 4, 2) := by decide +kernel
theorem dX4_solveSize_8 : decode cX4_solveSize 8 = .ok (.aload_n 1, 1) := by decide +kernel
theorem dX4_solveSize_9 : decode cX4_solveSize 9 = .ok (.getfield 39, 3) := by decide +kernel
theorem dX4_solveSize_12 : decode cX4_solveSize 12 = .ok (.iload_n 2, 1) := by decide +kernel
theorem dX4_solveSize_13 : decode cX4_solveSize 13 = .ok (.iaload, 1) := by decide +kernel
theorem dX4_solveSize_14 : decode cX4_solveSize 14 = .ok (.istore 6, 2) := by decide +kernel
theorem dX4_solveSize_16 : decode cX4_solveSize 16 = .ok (.bipush 100, 2) := by decide +kernel
theorem dX4_solveSize_18 : decode cX4_solveSize 18 = .ok (.iload_n 3, 1) := by decide +kernel
theorem dX4_solveSize_19 : decode cX4_solveSize 19 = .ok (.aload_n 1, 1) := by decide +kernel
theorem dX4_solveSize_20 : decode cX4_solveSize 20 = .ok (.getfield 44, 3) := by decide +kernel
theorem dX4_solveSize_23 : decode cX4_solveSize 23 = .ok (.iload_n 2, 1) := by decide +kernel
theorem dX4_solveSize_24 : decode cX4_solveSize 24 = .ok (.aaload, 1) := by decide +kernel
theorem dX4_solveSize_25 : decode cX4_solveSize 25 = .ok (.iload_n 2, 1) := by decide +kernel
theorem dX4_solveSize_26 : decode cX4_solveSize 26 = .ok (.iaload, 1) := by decide +kernel
theorem dX4_solveSize_27 : decode cX4_solveSize 27 = .ok (.imul, 1) := by decide +kernel
theorem dX4_solveSize_28 : decode cX4_solveSize 28 = .ok (.isub, 1) := by decide +kernel
theorem dX4_solveSize_29 : decode cX4_solveSize 29 = .ok (.istore 7, 2) := by decide +kernel
theorem dX4_solveSize_31 : decode cX4_solveSize 31 = .ok (.iload 7, 2) := by decide +kernel
theorem dX4_solveSize_33 : decode cX4_solveSize 33 = .ok (.ifCond .ne 39, 3) := by decide +kernel
theorem dX4_solveSize_36 : decode cX4_solveSize 36 = .ok (.aload_n 0, 1) := by decide +kernel
theorem dX4_solveSize_37 : decode cX4_solveSize 37 = .ok (.getfield 9, 3) := by decide +kernel
theorem dX4_solveSize_40 : decode cX4_solveSize 40 = .ok (.iload_n 2, 1) := by decide +kernel
theorem dX4_solveSize_41 : decode cX4_solveSize 41 = .ok (.lconst 0, 1) := by decide +kernel
theorem dX4_solveSize_42 : decode cX4_solveSize 42 = .ok (.lastore, 1) := by decide +kernel
theorem dX4_solveSize_43 : decode cX4_solveSize 43 = .ok (.aload_n 0, 1) := by decide +kernel
theorem dX4_solveSize_44 : decode cX4_solveSize 44 = .ok (.aload_n 0, 1) := by decide +kernel
theorem dX4_solveSize_45 : decode cX4_solveSize 45 = .ok (.getfield 23, 3) := by decide +kernel
theorem dX4_solveSize_48 : decode cX4_solveSize 48 = .ok (.ifCond .eq 19, 3) := by decide +kernel
theorem dX4_solveSize_51 : decode cX4_solveSize 51 = .ok (.iload 6, 2) := by decide +kernel
theorem dX4_solveSize_53 : decode cX4_solveSize 53 = .ok (.ifCond .ne 14, 3) := by decide +kernel
theorem dX4_solveSize_56 : decode cX4_solveSize 56 = .ok (.lload 4, 2) := by decide +kernel
theorem dX4_solveSize_58 : decode cX4_solveSize 58 = .ok (.lconst 0, 1) := by decide +kernel
theorem dX4_solveSize_59 : decode cX4_solveSize 59 = .ok (.lcmp, 1) := by decide +kernel
theorem dX4_solveSize_60 : decode cX4_solveSize 60 = .ok (.ifCond .ne 7, 3) := by decide +kernel
theorem dX4_solveSize_63 : decode cX4_solveSize 63 = .ok (.iconst 1, 1) := by decide +kernel
theorem dX4_solveSize_64 : decode cX4_solveSize 64 = .ok (.goto 4, 3) := by decide +kernel
theorem dX4_solveSize_67 : decode cX4_solveSize 67 = .ok (.iconst 0, 1) := by decide +kernel
theorem dX4_solveSize_68 : decode cX4_solveSize 68 = .ok (.putfield 23, 3) := by decide +kernel
theorem dX4_solveSize_71 : decode cX4_solveSize 71 = .ok (.return_, 1) := by decide +kernel
theorem dX4_solveSize_72 : decode cX4_solveSize 72 = .ok (.aload_n 0, 1) := by decide +kernel
theorem dX4_solveSize_73 : decode cX4_solveSize 73 = .ok (.getfield 9, 3) := by decide +kernel
theorem dX4_solveSize_76 : decode cX4_solveSize 76 = .ok (.iload_n 2, 1) := by decide +kernel
theorem dX4_solveSize_77 : decode cX4_solveSize 77 = .ok (.bipush 100, 2) := by decide +kernel
theorem dX4_solveSize_79 : decode cX4_solveSize 79 = .ok (.iload 6, 2) := by decide +kernel
theorem dX4_solveSize_81 : decode cX4_solveSize 81 = .ok (.imul, 1) := by decide +kernel
theorem dX4_solveSize_82 : decode cX4_solveSize 82 = .ok (.i2l, 1) := by decide +kernel
theorem dX4_solveSize_83 : decode cX4_solveSize 83 = .ok (.aload_n 0, 1) := by decide +kernel
theorem dX4_solveSize_84 : decode cX4_solveSize 84 = .ok (.getfield 19, 3) := by decide +kernel
theorem dX4_solveSize_87 : decode cX4_solveSize 87 = .ok (.lmul, 1) := by decide +kernel
theorem dX4_solveSize_88 : decode cX4_solveSize 88 = .ok (.iload_n 3, 1) := by decide +kernel
theorem dX4_solveSize_89 : decode cX4_solveSize 89 = .ok (.i2l, 1) := by decide +kernel
theorem dX4_solveSize_90 : decode cX4_solveSize 90 = .ok (.lload 4, 2) := by decide +kernel
theorem dX4_solveSize_92 : decode cX4_solveSize 92 = .ok (.lmul, 1) := by decide +kernel
theorem dX4_solveSize_93 : decode cX4_solveSize 93 = .ok (.ladd, 1) := by decide +kernel
theorem dX4_solveSize_94 : decode cX4_solveSize 94 = .ok (.lastore, 1) := by decide +kernel
theorem dX4_solveSize_95 : decode cX4_solveSize 95 = .ok (.aload_n 0, 1) := by decide +kernel
theorem dX4_solveSize_96 : decode cX4_solveSize 96 = .ok (.dup, 1) := by decide +kernel
theorem dX4_solveSize_97 : decode cX4_solveSize 97 = .ok (.getfield 19, 3) := by decide +kernel
theorem dX4_solveSize_100 : decode cX4_solveSize 100 = .ok (.iload 7, 2) := by decide +kernel
theorem dX4_solveSize_102 : decode cX4_solveSize 102 = .ok (.i2l, 1) := by decide +kernel
theorem dX4_solveSize_103 : decode cX4_solveSize 103 = .ok (.lmul, 1) := by decide +kernel
theorem dX4_solveSize_104 : decode cX4_solveSize 104 = .ok (.putfield 19, 3) := by decide +kernel
theorem dX4_solveSize_107 : decode cX4_solveSize 107 = .ok (.iconst 0, 1) := by decide +kernel
theorem dX4_solveSize_108 : decode cX4_solveSize 108 = .ok (.istore 8, 2) := by decide +kernel
theorem dX4_solveSize_110 : decode cX4_solveSize 110 = .ok (.iload 8, 2) := by decide +kernel
theorem dX4_solveSize_112 : decode cX4_solveSize 112 = .ok (.iload_n 2, 1) := by decide +kernel
theorem dX4_solveSize_113 : decode cX4_solveSize 113 = .ok (.if_icmp .ge 22, 3) := by decide +kernel
theorem dX4_solveSize_116 : decode cX4_solveSize 116 = .ok (.aload_n 0, 1) := by decide +kernel
theorem dX4_solveSize_117 : decode cX4_solveSize 117 = .ok (.getfield 9, 3) := by decide +kernel
theorem dX4_solveSize_120 : decode cX4_solveSize 120 = .ok (.iload 8, 2) := by decide +kernel
theorem dX4_solveSize_122 : decode cX4_solveSize 122 = .ok (.dup2, 1) := by decide +kernel
theorem dX4_solveSize_123 : decode cX4_solveSize 123 = .ok (.laload, 1) := by decide +kernel
theorem dX4_solveSize_124 : decode cX4_solveSize 124 = .ok (.iload 7, 2) := by decide +kernel
theorem dX4_solveSize_126 : decode cX4_solveSize 126 = .ok (.i2l, 1) := by decide +kernel
theorem dX4_solveSize_127 : decode cX4_solveSize 127 = .ok (.lmul, 1) := by decide +kernel
theorem dX4_solveSize_128 : decode cX4_solveSize 128 = .ok (.lastore, 1) := by decide +kernel
theorem dX4_solveSize_129 : decode cX4_solveSize 129 = .ok (.iinc 8 1, 3) := by decide +kernel
theorem dX4_solveSize_132 : decode cX4_solveSize 132 = .ok (.goto (-22), 3) := by decide +kernel
theorem dX4_solveSize_135 : decode cX4_solveSize 135 = .ok (.return_, 1) := by decide +kernel
theorem dX4_brokenInto_0 : decode cX4_brokenInto 0 = .ok (.lconst 0, 1) := by decide +kernel
theorem dX4_brokenInto_1 : decode cX4_brokenInto 1 = .ok (.lstore_n 3, 1) := by decide +kernel
theorem dX4_brokenInto_2 : decode cX4_brokenInto 2 = .ok (.iconst 0, 1) := by decide +kernel
theorem dX4_brokenInto_3 : decode cX4_brokenInto 3 = .ok (.istore 5, 2) := by decide +kernel
theorem dX4_brokenInto_5 : decode cX4_brokenInto 5 = .ok (.iload 5, 2) := by decide +kernel
theorem dX4_brokenInto_7 : decode cX4_brokenInto 7 = .ok (.iload_n 2, 1) := by decide +kernel
theorem dX4_brokenInto_8 : decode cX4_brokenInto 8 = .ok (.if_icmp .ge 30, 3) := by decide +kernel
theorem dX4_brokenInto_11 : decode cX4_brokenInto 11 = .ok (.lload_n 3, 1) := by decide +kernel
theorem dX4_brokenInto_12 : decode cX4_brokenInto 12 = .ok (.aload_n 0, 1) := by decide +kernel
theorem dX4_brokenInto_13 : decode cX4_brokenInto 13 = .ok (.getfield 9, 3) := by decide +kernel
theorem dX4_brokenInto_16 : decode cX4_brokenInto 16 = .ok (.iload 5, 2) := by decide +kernel
theorem dX4_brokenInto_18 : decode cX4_brokenInto 18 = .ok (.laload, 1) := by decide +kernel
theorem dX4_brokenInto_19 : decode cX4_brokenInto 19 = .ok (.aload_n 1, 1) := by decide +kernel
theorem dX4_brokenInto_20 : decode cX4_brokenInto 20 = .ok (.getfield 44, 3) := by decide +kernel
theorem dX4_brokenInto_23 : decode cX4_brokenInto 23 = .ok (.iload 5, 2) := by decide +kernel
theorem dX4_brokenInto_25 : decode cX4_brokenInto 25 = .ok (.aaload, 1) := by decide +kernel
theorem dX4_brokenInto_26 : decode cX4_brokenInto 26 = .ok (.iload_n 2, 1) := by decide +kernel
theorem dX4_brokenInto_27 : decode cX4_brokenInto 27 = .ok (.iaload, 1) := by decide +kernel
theorem dX4_brokenInto_28 : decode cX4_brokenInto 28 = .ok (.i2l, 1) := by decide +kernel
theorem dX4_brokenInto_29 : decode cX4_brokenInto 29 = .ok (.lmul, 1) := by decide +kernel
theorem dX4_brokenInto_30 : decode cX4_brokenInto 30 = .ok (.ladd, 1) := by decide +kernel
theorem dX4_brokenInto_31 : decode cX4_brokenInto 31 = .ok (.lstore_n 3, 1) := by decide +kernel
theorem dX4_brokenInto_32 : decode cX4_brokenInto 32 = .ok (.iinc 5 1, 3) := by decide +kernel
theorem dX4_brokenInto_35 : decode cX4_brokenInto 35 = .ok (.goto (-30), 3) := by decide +kernel
theorem dX4_brokenInto_38 : decode cX4_brokenInto 38 = .ok (.lload_n 3, 1) := by decide +kernel
theorem dX4_brokenInto_39 : decode cX4_brokenInto 39 = .ok (.lreturn, 1) := by decide +kernel
theorem dX4_sumOfLoads_0 : decode cX4_sumOfLoads 0 = .ok (.lconst 0, 1) := by decide +kernel
theorem dX4_sumOfLoads_1 : decode cX4_sumOfLoads 1 = .ok (.lstore_n 1, 1) := by decide +kernel
theorem dX4_sumOfLoads_2 : decode cX4_sumOfLoads 2 = .ok (.aload_n 0, 1) := by decide +kernel
theorem dX4_sumOfLoads_3 : decode cX4_sumOfLoads 3 = .ok (.getfield 9, 3) := by decide +kernel
theorem dX4_sumOfLoads_6 : decode cX4_sumOfLoads 6 = .ok (.astore_n 3, 1) := by decide +kernel
theorem dX4_sumOfLoads_7 : decode cX4_sumOfLoads 7 = .ok (.aload_n 3, 1) := by decide +kernel
theorem dX4_sumOfLoads_8 : decode cX4_sumOfLoads 8 = .ok (.arraylength, 1) := by decide +kernel
theorem dX4_sumOfLoads_9 : decode cX4_sumOfLoads 9 = .ok (.istore 4, 2) := by decide +kernel
theorem dX4_sumOfLoads_11 : decode cX4_sumOfLoads 11 = .ok (.iconst 0, 1) := by decide +kernel
theorem dX4_sumOfLoads_12 : decode cX4_sumOfLoads 12 = .ok (.istore 5, 2) := by decide +kernel
theorem dX4_sumOfLoads_14 : decode cX4_sumOfLoads 14 = .ok (.iload 5, 2) := by decide +kernel
theorem dX4_sumOfLoads_16 : decode cX4_sumOfLoads 16 = .ok (.iload 4, 2) := by decide +kernel
theorem dX4_sumOfLoads_18 : decode cX4_sumOfLoads 18 = .ok (.if_icmp .ge 20, 3) := by decide +kernel
theorem dX4_sumOfLoads_21 : decode cX4_sumOfLoads 21 = .ok (.aload_n 3, 1) := by decide +kernel
theorem dX4_sumOfLoads_22 : decode cX4_sumOfLoads 22 = .ok (.iload 5, 2) := by decide +kernel
theorem dX4_sumOfLoads_24 : decode cX4_sumOfLoads 24 = .ok (.laload, 1) := by decide +kernel
theorem dX4_sumOfLoads_25 : decode cX4_sumOfLoads 25 = .ok (.lstore 6, 2) := by decide +kernel
theorem dX4_sumOfLoads_27 : decode cX4_sumOfLoads 27 = .ok (.lload_n 1, 1) := by decide +kernel
theorem dX4_sumOfLoads_28 : decode cX4_sumOfLoads 28 = .ok (.lload 6, 2) := by decide +kernel
theorem dX4_sumOfLoads_30 : decode cX4_sumOfLoads 30 = .ok (.ladd, 1) := by decide +kernel
theorem dX4_sumOfLoads_31 : decode cX4_sumOfLoads 31 = .ok (.lstore_n 1, 1) := by decide +kernel
theorem dX4_sumOfLoads_32 : decode cX4_sumOfLoads 32 = .ok (.iinc 5 1, 3) := by decide +kernel
theorem dX4_sumOfLoads_35 : decode cX4_sumOfLoads 35 = .ok (.goto (-21), 3) := by decide +kernel
theorem dX4_sumOfLoads_38 : decode cX4_sumOfLoads 38 = .ok (.lload_n 1, 1) := by decide +kernel
theorem dX4_sumOfLoads_39 : decode cX4_sumOfLoads 39 = .ok (.lreturn, 1) := by decide +kernel
theorem dX4_scaledPower_0 : decode cX4_scaledPower 0 = .ok (.lconst 0, 1) := by decide +kernel
theorem dX4_scaledPower_1 : decode cX4_scaledPower 1 = .ok (.lstore_n 2, 1) := by decide +kernel
theorem dX4_scaledPower_2 : decode cX4_scaledPower 2 = .ok (.iconst 0, 1) := by decide +kernel
theorem dX4_scaledPower_3 : decode cX4_scaledPower 3 = .ok (.istore 4, 2) := by decide +kernel
theorem dX4_scaledPower_5 : decode cX4_scaledPower 5 = .ok (.iload 4, 2) := by decide +kernel
theorem dX4_scaledPower_7 : decode cX4_scaledPower 7 = .ok (.iconst 4, 1) := by decide +kernel
theorem dX4_scaledPower_8 : decode cX4_scaledPower 8 = .ok (.if_icmp .ge 25, 3) := by decide +kernel
theorem dX4_scaledPower_11 : decode cX4_scaledPower 11 = .ok (.lload_n 2, 1) := by decide +kernel
theorem dX4_scaledPower_12 : decode cX4_scaledPower 12 = .ok (.aload_n 1, 1) := by decide +kernel
theorem dX4_scaledPower_13 : decode cX4_scaledPower 13 = .ok (.iload 4, 2) := by decide +kernel
theorem dX4_scaledPower_15 : decode cX4_scaledPower 15 = .ok (.iaload, 1) := by decide +kernel
theorem dX4_scaledPower_16 : decode cX4_scaledPower 16 = .ok (.i2l, 1) := by decide +kernel
theorem dX4_scaledPower_17 : decode cX4_scaledPower 17 = .ok (.aload_n 0, 1) := by decide +kernel
theorem dX4_scaledPower_18 : decode cX4_scaledPower 18 = .ok (.getfield 9, 3) := by decide +kernel
theorem dX4_scaledPower_21 : decode cX4_scaledPower 21 = .ok (.iload 4, 2) := by decide +kernel
theorem dX4_scaledPower_23 : decode cX4_scaledPower 23 = .ok (.laload, 1) := by decide +kernel
theorem dX4_scaledPower_24 : decode cX4_scaledPower 24 = .ok (.lmul, 1) := by decide +kernel
theorem dX4_scaledPower_25 : decode cX4_scaledPower 25 = .ok (.ladd, 1) := by decide +kernel
theorem dX4_scaledPower_26 : decode cX4_scaledPower 26 = .ok (.lstore_n 2, 1) := by decide +kernel
theorem dX4_scaledPower_27 : decode cX4_scaledPower 27 = .ok (.iinc 4 1, 3) := by decide +kernel
theorem dX4_scaledPower_30 : decode cX4_scaledPower 30 = .ok (.goto (-25), 3) := by decide +kernel
theorem dX4_scaledPower_33 : decode cX4_scaledPower 33 = .ok (.lload_n 2, 1) := by decide +kernel
theorem dX4_scaledPower_34 : decode cX4_scaledPower 34 = .ok (.lreturn, 1) := by decide +kernel
theorem dX5_init_0 : decode cX5_init 0 = .ok (.aload_n 0, 1) := by decide +kernel
theorem dX5_init_1 : decode cX5_init 1 = .ok (.invokespecial 1, 3) := by decide +kernel
theorem dX5_init_4 : decode cX5_init 4 = .ok (.aload_n 0, 1) := by decide +kernel
theorem dX5_init_5 : decode cX5_init 5 = .ok (.new 7, 3) := by decide +kernel
theorem dX5_init_8 : decode cX5_init 8 = .ok (.dup, 1) := by decide +kernel
theorem dX5_init_9 : decode cX5_init 9 = .ok (.invokespecial 9, 3) := by decide +kernel
theorem dX5_init_12 : decode cX5_init 12 = .ok (.putfield 10, 3) := by decide +kernel
theorem dX5_init_15 : decode cX5_init 15 = .ok (.aload_n 0, 1) := by decide +kernel
theorem dX5_init_16 : decode cX5_init 16 = .ok (.iconst 2, 1) := by decide +kernel
theorem dX5_init_17 : decode cX5_init 17 = .ok (.anewarray 7, 3) := by decide +kernel
theorem dX5_init_20 : decode cX5_init 20 = .ok (.dup, 1) := by decide +kernel
theorem dX5_init_21 : decode cX5_init 21 = .ok (.iconst 0, 1) := by decide +kernel
theorem dX5_init_22 : decode cX5_init 22 = .ok (.new 7, 3) := by decide +kernel
theorem dX5_init_25 : decode cX5_init 25 = .ok (.dup, 1) := by decide +kernel
theorem dX5_init_26 : decode cX5_init 26 = .ok (.invokespecial 9, 3) := by decide +kernel
theorem dX5_init_29 : decode cX5_init 29 = .ok (.aastore, 1) := by decide +kernel
theorem dX5_init_30 : decode cX5_init 30 = .ok (.dup, 1) := by decide +kernel
theorem dX5_init_31 : decode cX5_init 31 = .ok (.iconst 1, 1) := by decide +kernel
theorem dX5_init_32 : decode cX5_init 32 = .ok (.new 7, 3) := by decide +kernel
theorem dX5_init_35 : decode cX5_init 35 = .ok (.dup, 1) := by decide +kernel
theorem dX5_init_36 : decode cX5_init 36 = .ok (.invokespecial 9, 3) := by decide +kernel
theorem dX5_init_39 : decode cX5_init 39 = .ok (.aastore, 1) := by decide +kernel
theorem dX5_init_40 : decode cX5_init 40 = .ok (.putfield 16, 3) := by decide +kernel
theorem dX5_init_43 : decode cX5_init 43 = .ok (.aload_n 0, 1) := by decide +kernel
theorem dX5_init_44 : decode cX5_init 44 = .ok (.iconst 2, 1) := by decide +kernel
theorem dX5_init_45 : decode cX5_init 45 = .ok (.newarray .boolean, 2) := by decide +kernel
theorem dX5_init_47 : decode cX5_init 47 = .ok (.putfield 20, 3) := by decide +kernel
theorem dX5_init_50 : decode cX5_init 50 = .ok (.aload_n 0, 1) := by decide +kernel
theorem dX5_init_51 : decode cX5_init 51 = .ok (.new 24, 3) := by decide +kernel
theorem dX5_init_54 : decode cX5_init 54 = .ok (.dup, 1) := by decide +kernel
theorem dX5_init_55 : decode cX5_init 55 = .ok (.invokespecial 26, 3) := by decide +kernel
theorem dX5_init_58 : decode cX5_init 58 = .ok (.putfield 27, 3) := by decide +kernel
theorem dX5_init_61 : decode cX5_init 61 = .ok (.return_, 1) := by decide +kernel
theorem dX5_setBreakage_0 : decode cX5_setBreakage 0 = .ok (.iload_n 1, 1) := by decide +kernel
theorem dX5_setBreakage_1 : decode cX5_setBreakage 1 = .ok (.invokestatic 31, 3) := by decide +kernel
theorem dX5_setBreakage_4 : decode cX5_setBreakage 4 = .ok (.ifCond .ne 5, 3) := by decide +kernel
theorem dX5_setBreakage_7 : decode cX5_setBreakage 7 = .ok (.iconst (-1), 1) := by decide +kernel
theorem dX5_setBreakage_8 : decode cX5_setBreakage 8 = .ok (.ireturn, 1) := by decide +kernel
theorem dX5_setBreakage_9 : decode cX5_setBreakage 9 = .ok (.iload_n 1, 1) := by decide +kernel
theorem dX5_setBreakage_10 : decode cX5_setBreakage 10 = .ok (.iconst 1, 1) := by decide +kernel
theorem dX5_setBreakage_11 : decode cX5_setBreakage 11 = .ok (.iadd, 1) := by decide +kernel
theorem dX5_setBreakage_12 : decode cX5_setBreakage 12 = .ok (.iload_n 2, 1) := by decide +kernel
theorem dX5_setBreakage_13 : decode cX5_setBreakage 13 = .ok (.invokestatic 35, 3) := by decide +kernel
theorem dX5_setBreakage_16 : decode cX5_setBreakage 16 = .ok (.ifCond .eq 24, 3) := by decide +kernel
theorem dX5_setBreakage_19 : decode cX5_setBreakage 19 = .ok (.iload_n 1, 1) := by decide +kernel
theorem dX5_setBreakage_20 : decode cX5_setBreakage 20 = .ok (.iconst 2, 1) := by decide +kernel
theorem dX5_setBreakage_21 : decode cX5_setBreakage 21 = .ok (.iadd, 1) := by decide +kernel
theorem dX5_setBreakage_22 : decode cX5_setBreakage 22 = .ok (.iload_n 3, 1) := by decide +kernel
theorem dX5_setBreakage_23 : decode cX5_setBreakage 23 = .ok (.invokestatic 35, 3) := by decide +kernel
theorem dX5_setBreakage_26 : decode cX5_setBreakage 26 = .ok (.ifCond .eq 14, 3) := by decide +kernel
theorem dX5_setBreakage_29 : decode cX5_setBreakage 29 = .ok (.iload_n 1, 1) := by decide +kernel
theorem dX5_setBreakage_30 : decode cX5_setBreakage 30 = .ok (.iconst 3, 1) := by decide +kernel
theorem dX5_setBreakage_31 : decode cX5_setBreakage 31 = .ok (.iadd, 1) := by decide +kernel
theorem dX5_setBreakage_32 : decode cX5_setBreakage 32 = .ok (.iload 4, 2) := by decide +kernel
theorem dX5_setBreakage_34 : decode cX5_setBreakage 34 = .ok (.invokestatic 35, 3) := by decide +kernel
theorem dX5_setBreakage_37 : decode cX5_setBreakage 37 = .ok (.ifCond .ne 6, 3) := by decide +kernel
theorem dX5_setBreakage_40 : decode cX5_setBreakage 40 = .ok (.bipush (-3), 2) := by decide +kernel
theorem dX5_setBreakage_42 : decode cX5_setBreakage 42 = .ok (.ireturn, 1) := by decide +kernel
theorem dX5_setBreakage_43 : decode cX5_setBreakage 43 = .ok (.iload_n 2, 1) := by decide +kernel
theorem dX5_setBreakage_44 : decode cX5_setBreakage 44 = .ok (.iload_n 3, 1) := by decide +kernel
theorem dX5_setBreakage_45 : decode cX5_setBreakage 45 = .ok (.iadd, 1) := by decide +kernel
theorem dX5_setBreakage_46 : decode cX5_setBreakage 46 = .ok (.iload 4, 2) := by decide +kernel
theorem dX5_setBreakage_48 : decode cX5_setBreakage 48 = .ok (.iadd, 1) := by decide +kernel
theorem dX5_setBreakage_49 : decode cX5_setBreakage 49 = .ok (.bipush 10, 2) := by decide +kernel
theorem dX5_setBreakage_51 : decode cX5_setBreakage 51 = .ok (.if_icmp .le 6, 3) := by decide +kernel
theorem dX5_setBreakage_54 : decode cX5_setBreakage 54 = .ok (.bipush (-3), 2) := by decide +kernel
theorem dX5_setBreakage_56 : decode cX5_setBreakage 56 = .ok (.ireturn, 1) := by decide +kernel
theorem dX5_setBreakage_57 : decode cX5_setBreakage 57 = .ok (.aload_n 0, 1) := by decide +kernel
theorem dX5_setBreakage_58 : decode cX5_setBreakage 58 = .ok (.getfield 10, 3) := by decide +kernel
theorem dX5_setBreakage_61 : decode cX5_setBreakage 61 = .ok (.getfield 39, 3) := by decide +kernel
theorem dX5_setBreakage_64 : decode cX5_setBreakage 64 = .ok (.astore 5, 2) := by decide +kernel
theorem dX5_setBreakage_66 : decode cX5_setBreakage 66 = .ok (.aload 5, 2) := by decide +kernel
theorem dX5_setBreakage_68 : decode cX5_setBreakage 68 = .ok (.iload_n 1, 1) := by decide +kernel
theorem dX5_setBreakage_69 : decode cX5_setBreakage 69 = .ok (.iload_n 1, 1) := by decide +kernel
theorem dX5_setBreakage_70 : decode cX5_setBreakage 70 = .ok (.iconst 1, 1) := by decide +kernel
theorem dX5_setBreakage_71 : decode cX5_setBreakage 71 = .ok (.iadd, 1) := by decide +kernel
theorem dX5_setBreakage_72 : decode cX5_setBreakage 72 = .ok (.iload_n 2, 1) := by decide +kernel
theorem dX5_setBreakage_73 : decode cX5_setBreakage 73 = .ok (.invokevirtual 43, 3) := by decide +kernel
theorem dX5_setBreakage_76 : decode cX5_setBreakage 76 = .ok (.aload 5, 2) := by decide +kernel
theorem dX5_setBreakage_78 : decode cX5_setBreakage 78 = .ok (.iload_n 1, 1) := by decide +kernel
theorem dX5_setBreakage_79 : decode cX5_setBreakage 79 = .ok (.iload_n 1, 1) := by decide +kernel
theorem dX5_setBreakage_80 : decode cX5_setBreakage 80 = .ok (.iconst 2, 1) := by decide +kernel
theorem dX5_setBreakage_81 : decode cX5_setBreakage 81 = .ok (.iadd, 1) := by decide +kernel
theorem dX5_setBreakage_82 : decode cX5_setBreakage 82 = .ok (.iload_n 3, 1) := by decide +kernel
theorem dX5_setBreakage_83 : decode cX5_setBreakage 83 = .ok (.invokevirtual 43, 3) := by decide +kernel
theorem dX5_setBreakage_86 : decode cX5_setBreakage 86 = .ok (.aload 5, 2) := by decide +kernel
theorem dX5_setBreakage_88 : decode cX5_setBreakage 88 = .ok (.iload_n 1, 1) := by decide +kernel
theorem dX5_setBreakage_89 : decode cX5_setBreakage 89 = .ok (.iload_n 1, 1) := by decide +kernel
theorem dX5_setBreakage_90 : decode cX5_setBreakage 90 = .ok (.iconst 3, 1) := by decide +kernel
theorem dX5_setBreakage_91 : decode cX5_setBreakage 91 = .ok (.iadd, 1) := by decide +kernel
theorem dX5_setBreakage_92 : decode cX5_setBreakage 92 = .ok (.iload 4, 2) := by decide +kernel
theorem dX5_setBreakage_94 : decode cX5_setBreakage 94 = .ok (.invokevirtual 43, 3) := by decide +kernel
theorem dX5_setBreakage_97 : decode cX5_setBreakage 97 = .ok (.bipush 10, 2) := by decide +kernel
theorem dX5_setBreakage_99 : decode cX5_setBreakage 99 = .ok (.iload_n 2, 1) := by decide +kernel
theorem dX5_setBreakage_100 : decode cX5_setBreakage 100 = .ok (.isub, 1) := by decide +kernel
theorem dX5_setBreakage_101 : decode cX5_setBreakage 101 = .ok (.iload_n 3, 1) := by decide +kernel
theorem dX5_setBreakage_102 : decode cX5_setBreakage 102 = .ok (.isub, 1) := by decide +kernel
theorem dX5_setBreakage_103 : decode cX5_setBreakage 103 = .ok (.iload 4, 2) := by decide +kernel
theorem dX5_setBreakage_105 : decode cX5_setBreakage 105 = .ok (.isub, 1) := by decide +kernel
theorem dX5_setBreakage_106 : decode cX5_setBreakage 106 = .ok (.istore 6, 2) := by decide +kernel
theorem dX5_setBreakage_108 : decode cX5_setBreakage 108 = .ok (.aload 5, 2) := by decide +kernel
theorem dX5_setBreakage_110 : decode cX5_setBreakage 110 = .ok (.iload_n 1, 1) := by decide +kernel
theorem dX5_setBreakage_111 : decode cX5_setBreakage 111 = .ok (.iload_n 1, 1) := by decide +kernel
theorem dX5_setBreakage_112 : decode cX5_setBreakage 112 = .ok (.iload 6, 2) := by decide +kernel
theorem dX5_setBreakage_114 : decode cX5_setBreakage 114 = .ok (.invokevirtual 43, 3) := by decide +kernel
theorem dX5_setBreakage_117 : decode cX5_setBreakage 117 = .ok (.iload 6, 2) := by decide +kernel
theorem dX5_setBreakage_119 : decode cX5_setBreakage 119 = .ok (.ireturn, 1) := by decide +kernel
theorem dX5_share_0 : decode cX5_share 0 = .ok (.iload_n 1, 1) := by decide +kernel
theorem dX5_share_1 : decode cX5_share 1 = .ok (.invokestatic 31, 3) := by decide +kernel
theorem dX5_share_4 : decode cX5_share 4 = .ok (.ifCond .eq 10, 3) := by decide +kernel
theorem dX5_share_7 : decode cX5_share 7 = .ok (.iload_n 2, 1) := by decide +kernel
theorem dX5_share_8 : decode cX5_share 8 = .ok (.invokestatic 31, 3) := by decide +kernel
theorem dX5_share_11 : decode cX5_share 11 = .ok (.ifCond .ne 5, 3) := by decide +kernel
theorem dX5_share_14 : decode cX5_share 14 = .ok (.iconst (-1), 1) := by decide +kernel
theorem dX5_share_15 : decode cX5_share 15 = .ok (.ireturn, 1) := by decide +kernel
theorem dX5_share_16 : decode cX5_share 16 = .ok (.aload_n 0, 1) := by decide +kernel
theorem dX5_share_17 : decode cX5_share 17 = .ok (.getfield 10, 3) := by decide +kernel
theorem dX5_share_20 : decode cX5_share 20 = .ok (.getfield 39, 3) := by decide +kernel
theorem dX5_share_23 : decode cX5_share 23 = .ok (.getfield 49, 3) := by decide +kernel
theorem dX5_share_26 : decode cX5_share 26 = .ok (.iload_n 1, 1) := by decide +kernel
theorem dX5_share_27 : decode cX5_share 27 = .ok (.aaload, 1) := by decide +kernel
theorem dX5_share_28 : decode cX5_share 28 = .ok (.iload_n 2, 1) := by decide +kernel
theorem dX5_share_29 : decode cX5_share 29 = .ok (.iaload, 1) := by decide +kernel
theorem dX5_share_30 : decode cX5_share 30 = .ok (.ireturn, 1) := by decide +kernel
theorem dX5_setReturn_0 : decode cX5_setReturn 0 = .ok (.aload_n 0, 1) := by decide +kernel
theorem dX5_setReturn_1 : decode cX5_setReturn 1 = .ok (.getfield 10, 3) := by decide +kernel
theorem dX5_setReturn_4 : decode cX5_setReturn 4 = .ok (.getfield 39, 3) := by decide +kernel
theorem dX5_setReturn_7 : decode cX5_setReturn 7 = .ok (.getfield 53, 3) := by decide +kernel
theorem dX5_setReturn_10 : decode cX5_setReturn 10 = .ok (.iload_n 1, 1) := by decide +kernel
theorem dX5_setReturn_11 : decode cX5_setReturn 11 = .ok (.iload_n 2, 1) := by decide +kernel
theorem dX5_setReturn_12 : decode cX5_setReturn 12 = .ok (.bipush 10, 2) := by decide +kernel
theorem dX5_setReturn_14 : decode cX5_setReturn 14 = .ok (.invokestatic 57, 3) := by decide +kernel
theorem dX5_setReturn_17 : decode cX5_setReturn 17 = .ok (.ireturn, 1) := by decide +kernel
theorem dX5_setWork_0 : decode cX5_setWork 0 = .ok (.aload_n 0, 1) := by decide +kernel
theorem dX5_setWork_1 : decode cX5_setWork 1 = .ok (.getfield 10, 3) := by decide +kernel
theorem dX5_setWork_4 : decode cX5_setWork 4 = .ok (.getfield 39, 3) := by decide +kernel
theorem dX5_setWork_7 : decode cX5_setWork 7 = .ok (.getfield 61, 3) := by decide +kernel
theorem dX5_setWork_10 : decode cX5_setWork 10 = .ok (.iload_n 1, 1) := by decide +kernel
theorem dX5_setWork_11 : decode cX5_setWork 11 = .ok (.iload_n 2, 1) := by decide +kernel
theorem dX5_setWork_12 : decode cX5_setWork 12 = .ok (.bipush 100, 2) := by decide +kernel
theorem dX5_setWork_14 : decode cX5_setWork 14 = .ok (.invokestatic 57, 3) := by decide +kernel
theorem dX5_setWork_17 : decode cX5_setWork 17 = .ok (.ireturn, 1) := by decide +kernel
theorem dX5_setFeed_0 : decode cX5_setFeed 0 = .ok (.aload_n 0, 1) := by decide +kernel
theorem dX5_setFeed_1 : decode cX5_setFeed 1 = .ok (.getfield 10, 3) := by decide +kernel
theorem dX5_setFeed_4 : decode cX5_setFeed 4 = .ok (.getfield 39, 3) := by decide +kernel
theorem dX5_setFeed_7 : decode cX5_setFeed 7 = .ok (.getfield 64, 3) := by decide +kernel
theorem dX5_setFeed_10 : decode cX5_setFeed 10 = .ok (.iload_n 1, 1) := by decide +kernel
theorem dX5_setFeed_11 : decode cX5_setFeed 11 = .ok (.iload_n 2, 1) := by decide +kernel
theorem dX5_setFeed_12 : decode cX5_setFeed 12 = .ok (.sipush 1000, 3) := by decide +kernel
theorem dX5_setFeed_15 : decode cX5_setFeed 15 = .ok (.invokestatic 57, 3) := by decide +kernel
theorem dX5_setFeed_18 : decode cX5_setFeed 18 = .ok (.ireturn, 1) := by decide +kernel
theorem dX5_load_0 : decode cX5_load 0 = .ok (.iload_n 1, 1) := by decide +kernel
theorem dX5_load_1 : decode cX5_load 1 = .ok (.invokestatic 31, 3) := by decide +kernel
theorem dX5_load_4 : decode cX5_load 4 = .ok (.ifCond .ne 7, 3) := by decide +kernel
theorem dX5_load_7 : decode cX5_load 7 = .ok (.ldc2_w 67, 3) := by decide +kernel
theorem dX5_load_10 : decode cX5_load 10 = .ok (.lreturn, 1) := by decide +kernel
theorem dX5_load_11 : decode cX5_load 11 = .ok (.iload_n 2, 1) := by decide +kernel
theorem dX5_load_12 : decode cX5_load 12 = .ok (.invokestatic 69, 3) := by decide +kernel
theorem dX5_load_15 : decode cX5_load 15 = .ok (.ifCond .ne 7, 3) := by decide +kernel
theorem dX5_load_18 : decode cX5_load 18 = .ok (.ldc2_w 72, 3) := by decide +kernel
theorem dX5_load_21 : decode cX5_load 21 = .ok (.lreturn, 1) := by decide +kernel
theorem dX5_load_22 : decode cX5_load 22 = .ok (.aload_n 0, 1) := by decide +kernel
theorem dX5_load_23 : decode cX5_load 23 = .ok (.getfield 27, 3) := by decide +kernel
theorem dX5_load_26 : decode cX5_load 26 = .ok (.aload_n 0, 1) := by decide +kernel
theorem dX5_load_27 : decode cX5_load 27 = .ok (.getfield 10, 3) := by decide +kernel
theorem dX5_load_30 : decode cX5_load 30 = .ok (.getfield 39, 3) := by decide +kernel
theorem dX5_load_33 : decode cX5_load 33 = .ok (.aload_n 0, 1) := by decide +kernel
theorem dX5_load_34 : decode cX5_load 34 = .ok (.getfield 10, 3) := by decide +kernel
theorem dX5_load_37 : decode cX5_load 37 = .ok (.getfield 39, 3) := by decide +kernel
theorem dX5_load_40 : decode cX5_load 40 = .ok (.getfield 53, 3) := by decide +kernel
theorem dX5_load_43 : decode cX5_load 43 = .ok (.invokevirtual 74, 3) := by decide +kernel
theorem dX5_load_46 : decode cX5_load 46 = .ok (.aload_n 0, 1) := by decide +kernel
theorem dX5_load_47 : decode cX5_load 47 = .ok (.getfield 27, 3) := by decide +kernel
theorem dX5_load_50 : decode cX5_load 50 = .ok (.getfield 78, 3) := by decide +kernel
theorem dX5_load_53 : decode cX5_load 53 = .ok (.ifCond .ne 7, 3) := by decide +kernel
theorem dX5_load_56 : decode cX5_load 56 = .ok (.ldc2_w 82, 3) := by decide +kernel
theorem dX5_load_59 : decode cX5_load 59 = .ok (.lreturn, 1) := by decide +kernel
theorem dX5_load_60 : decode cX5_load 60 = .ok (.aload_n 0, 1) := by decide +kernel
theorem dX5_load_61 : decode cX5_load 61 = .ok (.getfield 27, 3) := by decide +kernel
theorem dX5_load_64 : decode cX5_load 64 = .ok (.getfield 84, 3) := by decide +kernel
theorem dX5_load_67 : decode cX5_load 67 = .ok (.iload_n 1, 1) := by decide +kernel
theorem dX5_load_68 : decode cX5_load 68 = .ok (.laload, 1) := by decide +kernel
theorem dX5_load_69 : decode cX5_load 69 = .ok (.aload_n 0, 1) := by decide +kernel
theorem dX5_load_70 : decode cX5_load 70 = .ok (.getfield 27, 3) := by decide +kernel
theorem dX5_load_73 : decode cX5_load 73 = .ok (.getfield 88, 3) := by decide +kernel
theorem dX5_load_76 : decode cX5_load 76 = .ok (.iload_n 2, 1) := by decide +kernel
theorem dX5_load_77 : decode cX5_load 77 = .ok (.invokestatic 92, 3) := by decide +kernel
theorem dX5_load_80 : decode cX5_load 80 = .ok (.lreturn, 1) := by decide +kernel
theorem dX5_product_0 : decode cX5_product 0 = .ok (.iload_n 1, 1) := by decide +kernel
theorem dX5_product_1 : decode cX5_product 1 = .ok (.invokestatic 31, 3) := by decide +kernel
theorem dX5_product_4 : decode cX5_product 4 = .ok (.ifCond .ne 7, 3) := by decide +kernel
theorem dX5_product_7 : decode cX5_product 7 = .ok (.ldc2_w 67, 3) := by decide +kernel
theorem dX5_product_10 : decode cX5_product 10 = .ok (.lreturn, 1) := by decide +kernel
theorem dX5_product_11 : decode cX5_product 11 = .ok (.iload_n 2, 1) := by decide +kernel
theorem dX5_product_12 : decode cX5_product 12 = .ok (.invokestatic 69, 3) := by decide +kernel
theorem dX5_product_15 : decode cX5_product 15 = .ok (.ifCond .ne 7, 3) := by decide +kernel
theorem dX5_product_18 : decode cX5_product 18 = .ok (.ldc2_w 72, 3) := by decide +kernel
theorem dX5_product_21 : decode cX5_product 21 = .ok (.lreturn, 1) := by decide +kernel
theorem dX5_product_22 : decode cX5_product 22 = .ok (.aload_n 0, 1) := by decide +kernel
theorem dX5_product_23 : decode cX5_product 23 = .ok (.getfield 10, 3) := by decide +kernel
theorem dX5_product_26 : decode cX5_product 26 = .ok (.getfield 39, 3) := by decide +kernel
theorem dX5_product_29 : decode cX5_product 29 = .ok (.astore_n 3, 1) := by decide +kernel
theorem dX5_product_30 : decode cX5_product 30 = .ok (.aload_n 0, 1) := by decide +kernel
theorem dX5_product_31 : decode cX5_product 31 = .ok (.getfield 27, 3) := by decide +kernel
theorem dX5_product_34 : decode cX5_product 34 = .ok (.aload_n 3, 1) := by decide +kernel
theorem dX5_product_35 : decode cX5_product 35 = .ok (.aload_n 3, 1) := by decide +kernel
theorem dX5_product_36 : decode cX5_product 36 = .ok (.getfield 53, 3) := by decide +kernel
theorem dX5_product_39 : decode cX5_product 39 = .ok (.invokevirtual 74, 3) := by decide +kernel
theorem dX5_product_42 : decode cX5_product 42 = .ok (.aload_n 0, 1) := by decide +kernel
theorem dX5_product_43 : decode cX5_product 43 = .ok (.getfield 27, 3) := by decide +kernel
theorem dX5_product_46 : decode cX5_product 46 = .ok (.getfield 78, 3) := by decide +kernel
theorem dX5_product_49 : decode cX5_product 49 = .ok (.ifCond .ne 7, 3) := by decide +kernel
theorem dX5_product_52 : decode cX5_product 52 = .ok (.ldc2_w 82, 3) := by decide +kernel
theorem dX5_product_55 : decode cX5_product 55 = .ok (.lreturn, 1) := by decide +kernel
theorem dX5_product_56 : decode cX5_product 56 = .ok (.aload_n 0, 1) := by decide +kernel
theorem dX5_product_57 : decode cX5_product 57 = .ok (.getfield 27, 3) := by decide +kernel
theorem dX5_product_60 : decode cX5_product 60 = .ok (.aload_n 3, 1) := by decide +kernel
theorem dX5_product_61 : decode cX5_product 61 = .ok (.iload_n 1, 1) := by decide +kernel
theorem dX5_product_62 : decode cX5_product 62 = .ok (.invokevirtual 96, 3) := by decide +kernel
theorem dX5_product_65 : decode cX5_product 65 = .ok (.aload_n 0, 1) := by decide +kernel
theorem dX5_product_66 : decode cX5_product 66 = .ok (.getfield 27, 3) := by decide +kernel
theorem dX5_product_69 : decode cX5_product 69 = .ok (.getfield 84, 3) := by decide +kernel
theorem dX5_product_72 : decode cX5_product 72 = .ok (.iload_n 1, 1) := by decide +kernel
theorem dX5_product_73 : decode cX5_product 73 = .ok (.laload, 1) := by decide +kernel
theorem dX5_product_74 : decode cX5_product 74 = .ok (.aload_n 3, 1) := by decide +kernel
theorem dX5_product_75 : decode cX5_product 75 = .ok (.getfield 49, 3) := by decide +kernel
theorem dX5_product_78 : decode cX5_product 78 = .ok (.iload_n 1, 1) := by decide +kernel
theorem dX5_product_79 : decode cX5_product 79 = .ok (.aaload, 1) := by decide +kernel
theorem dX5_product_80 : decode cX5_product 80 = .ok (.iload_n 1, 1) := by decide +kernel
theorem dX5_product_81 : decode cX5_product 81 = .ok (.iaload, 1) := by decide +kernel
theorem dX5_product_82 : decode cX5_product 82 = .ok (.i2l, 1) := by decide +kernel
theorem dX5_product_83 : decode cX5_product 83 = .ok (.lmul, 1) := by decide +kernel
theorem dX5_product_84 : decode cX5_product 84 = .ok (.ladd, 1) := by decide +kernel
theorem dX5_product_85 : decode cX5_product 85 = .ok (.lstore 4, 2) := by decide +kernel
theorem dX5_product_87 : decode cX5_product 87 = .ok (.bipush 10, 2) := by decide +kernel
theorem dX5_product_89 : decode cX5_product 89 = .ok (.aload_n 3, 1) := by decide +kernel
theorem dX5_product_90 : decode cX5_product 90 = .ok (.getfield 53, 3) := by decide +kernel
theorem dX5_product_93 : decode cX5_product 93 = .ok (.iload_n 1, 1) := by decide +kernel
theorem dX5_product_94 : decode cX5_product 94 = .ok (.iaload, 1) := by decide +kernel
theorem dX5_product_95 : decode cX5_product 95 = .ok (.isub, 1) := by decide +kernel
theorem dX5_product_96 : decode cX5_product 96 = .ok (.i2l, 1) := by decide +kernel
theorem dX5_product_97 : decode cX5_product 97 = .ok (.lstore 6, 2) := by decide +kernel
theorem dX5_product_99 : decode cX5_product 99 = .ok (.lload 4, 2) := by decide +kernel
theorem dX5_product_101 : decode cX5_product 101 = .ok (.lload 6, 2) := by decide +kernel
theorem dX5_product_103 : decode cX5_product 103 = .ok (.lmul, 1) := by decide +kernel
theorem dX5_product_104 : decode cX5_product 104 = .ok (.aload_n 0, 1) := by decide +kernel
theorem dX5_product_105 : decode cX5_product 105 = .ok (.getfield 27, 3) := by decide +kernel
theorem dX5_product_108 : decode cX5_product 108 = .ok (.getfield 88, 3) := by decide +kernel
theorem dX5_product_111 : decode cX5_product 111 = .ok (.ldc2_w 100, 3) := by decide +kernel
theorem dX5_product_114 : decode cX5_product 114 = .ok (.lmul, 1) := by decide +kernel
theorem dX5_product_115 : decode cX5_product 115 = .ok (.ldc2_w 100, 3) := by decide +kernel
theorem dX5_product_118 : decode cX5_product 118 = .ok (.lmul, 1) := by decide +kernel
theorem dX5_product_119 : decode cX5_product 119 = .ok (.iload_n 2, 1) := by decide +kernel
theorem dX5_product_120 : decode cX5_product 120 = .ok (.invokestatic 92, 3) := by decide +kernel
theorem dX5_product_123 : decode cX5_product 123 = .ok (.lreturn, 1) := by decide +kernel
theorem dX5_circulatingLoad_0 : decode cX5_circulatingLoad 0 = .ok (.iload_n 1, 1) := by decide +kernel
theorem dX5_circulatingLoad_1 : decode cX5_circulatingLoad 1 = .ok (.invokestatic 69, 3) := by decide +kernel
theorem dX5_circulatingLoad_4 : decode cX5_circulatingLoad 4 = .ok (.ifCond .ne 7, 3) := by decide +kernel
theorem dX5_circulatingLoad_7 : decode cX5_circulatingLoad 7 = .ok (.ldc2_w 72, 3) := by decide +kernel
theorem dX5_circulatingLoad_10 : decode cX5_circulatingLoad 10 = .ok (.lreturn, 1) := by decide +kernel
theorem dX5_circulatingLoad_11 : decode cX5_circulatingLoad 11 = .ok (.aload_n 0, 1) := by decide +kernel
theorem dX5_circulatingLoad_12 : decode cX5_circulatingLoad 12 = .ok (.getfield 27, 3) := by decide +kernel
theorem dX5_circulatingLoad_15 : decode cX5_circulatingLoad 15 = .ok (.aload_n 0, 1) := by decide +kernel
theorem dX5_circulatingLoad_16 : decode cX5_circulatingLoad 16 = .ok (.getfield 10, 3) := by decide +kernel
theorem dX5_circulatingLoad_19 : decode cX5_circulatingLoad 19 = .ok (.getfield 39, 3) := by decide +kernel
theorem dX5_circulatingLoad_22 : decode cX5_circulatingLoad 22 = .ok (.aload_n 0, 1) := by decide +kernel
theorem dX5_circulatingLoad_23 : decode cX5_circulatingLoad 23 = .ok (.getfield 10, 3) := by decide +kernel
theorem dX5_circulatingLoad_26 : decode cX5_circulatingLoad 26 = .ok (.getfield 39, 3) := by decide +kernel
theorem dX5_circulatingLoad_29 : decode cX5_circulatingLoad 29 = .ok (.getfield 53, 3) := by decide +kernel
theorem dX5_circulatingLoad_32 : decode cX5_circulatingLoad 32 = .ok (.invokevirtual 74, 3) := by decide +kernel
theorem dX5_circulatingLoad_35 : decode cX5_circulatingLoad 35 = .ok (.aload_n 0, 1) := by decide +kernel
theorem dX5_circulatingLoad_36 : decode cX5_circulatingLoad 36 = .ok (.getfield 27, 3) := by decide +kernel
theorem dX5_circulatingLoad_39 : decode cX5_circulatingLoad 39 = .ok (.getfield 78, 3) := by decide +kernel
theorem dX5_circulatingLoad_42 : decode cX5_circulatingLoad 42 = .ok (.ifCond .ne 7, 3) := by decide +kernel
theorem dX5_circulatingLoad_45 : decode cX5_circulatingLoad 45 = .ok (.ldc2_w 82, 3) := by decide +kernel
theorem dX5_circulatingLoad_48 : decode cX5_circulatingLoad 48 = .ok (.lreturn, 1) := by decide +kernel
theorem dX5_circulatingLoad_49 : decode cX5_circulatingLoad 49 = .ok (.aload_n 0, 1) := by decide +kernel
theorem dX5_circulatingLoad_50 : decode cX5_circulatingLoad 50 = .ok (.getfield 10, 3) := by decide +kernel
theorem dX5_circulatingLoad_53 : decode cX5_circulatingLoad 53 = .ok (.getfield 39, 3) := by decide +kernel
theorem dX5_circulatingLoad_56 : decode cX5_circulatingLoad 56 = .ok (.getfield 64, 3) := by decide +kernel
theorem dX5_circulatingLoad_59 : decode cX5_circulatingLoad 59 = .ok (.invokestatic 102, 3) := by decide +kernel
theorem dX5_circulatingLoad_62 : decode cX5_circulatingLoad 62 = .ok (.i2l, 1) := by decide +kernel
theorem dX5_circulatingLoad_63 : decode cX5_circulatingLoad 63 = .ok (.aload_n 0, 1) := by decide +kernel
theorem dX5_circulatingLoad_64 : decode cX5_circulatingLoad 64 = .ok (.getfield 27, 3) := by decide +kernel
theorem dX5_circulatingLoad_67 : decode cX5_circulatingLoad 67 = .ok (.getfield 88, 3) := by decide +kernel
theorem dX5_circulatingLoad_70 : decode cX5_circulatingLoad 70 = .ok (.lmul, 1) := by decide +kernel
theorem dX5_circulatingLoad_71 : decode cX5_circulatingLoad 71 = .ok (.lstore_n 2, 1) := by decide +kernel
theorem dX5_circulatingLoad_72 : decode cX5_circulatingLoad 72 = .ok (.lload_n 2, 1) := by decide +kernel
theorem dX5_circulatingLoad_73 : decode cX5_circulatingLoad 73 = .ok (.lconst 0, 1) := by decide +kernel
theorem dX5_circulatingLoad_74 : decode cX5_circulatingLoad 74 = .ok (.lcmp, 1) := by decide +kernel
theorem dX5_circulatingLoad_75 : decode cX5_circulatingLoad 75 = .ok (.ifCond .ne 7, 3) := by decide +kernel
theorem dX5_circulatingLoad_78 : decode cX5_circulatingLoad 78 = .ok (.ldc2_w 106, 3) := by decide +kernel
theorem dX5_circulatingLoad_81 : decode cX5_circulatingLoad 81 = .ok (.lreturn, 1) := by decide +kernel
theorem dX5_circulatingLoad_82 : decode cX5_circulatingLoad 82 = .ok (.aload_n 0, 1) := by decide +kernel
theorem dX5_circulatingLoad_83 : decode cX5_circulatingLoad 83 = .ok (.getfield 27, 3) := by decide +kernel
theorem dX5_circulatingLoad_86 : decode cX5_circulatingLoad 86 = .ok (.invokevirtual 108, 3) := by decide +kernel
theorem dX5_circulatingLoad_89 : decode cX5_circulatingLoad 89 = .ok (.lload_n 2, 1) := by decide +kernel
theorem dX5_circulatingLoad_90 : decode cX5_circulatingLoad 90 = .ok (.lsub, 1) := by decide +kernel
theorem dX5_circulatingLoad_91 : decode cX5_circulatingLoad 91 = .ok (.lload_n 2, 1) := by decide +kernel
theorem dX5_circulatingLoad_92 : decode cX5_circulatingLoad 92 = .ok (.iload_n 1, 1) := by decide +kernel
theorem dX5_circulatingLoad_93 : decode cX5_circulatingLoad 93 = .ok (.invokestatic 92, 3) := by decide +kernel
theorem dX5_circulatingLoad_96 : decode cX5_circulatingLoad 96 = .ok (.lreturn, 1) := by decide +kernel
theorem dX5_power_0 : decode cX5_power 0 = .ok (.iload_n 1, 1) := by decide +kernel
theorem dX5_power_1 : decode cX5_power 1 = .ok (.invokestatic 69, 3) := by decide +kernel
theorem dX5_power_4 : decode cX5_power 4 = .ok (.ifCond .ne 7, 3) := by decide +kernel
theorem dX5_power_7 : decode cX5_power 7 = .ok (.ldc2_w 72, 3) := by decide +kernel
theorem dX5_power_10 : decode cX5_power 10 = .ok (.lreturn, 1) := by decide +kernel
theorem dX5_power_11 : decode cX5_power 11 = .ok (.aload_n 0, 1) := by decide +kernel
theorem dX5_power_12 : decode cX5_power 12 = .ok (.getfield 27, 3) := by decide +kernel
theorem dX5_power_15 : decode cX5_power 15 = .ok (.aload_n 0, 1) := by decide +kernel
theorem dX5_power_16 : decode cX5_power 16 = .ok (.getfield 10, 3) := by decide +kernel
theorem dX5_power_19 : decode cX5_power 19 = .ok (.getfield 39, 3) := by decide +kernel
theorem dX5_power_22 : decode cX5_power 22 = .ok (.aload_n 0, 1) := by decide +kernel
theorem dX5_power_23 : decode cX5_power 23 = .ok (.getfield 10, 3) := by decide +kernel
theorem dX5_power_26 : decode cX5_power 26 = .ok (.getfield 39, 3) := by decide +kernel
theorem dX5_power_29 : decode cX5_power 29 = .ok (.getfield 53, 3) := by decide +kernel
theorem dX5_power_32 : decode cX5_power 32 = .ok (.invokevirtual 74, 3) := by decide +kernel
theorem dX5_power_35 : decode cX5_power 35 = .ok (.aload_n 0, 1) := by decide +kernel
theorem dX5_power_36 : decode cX5_power 36 = .ok (.getfield 27, 3) := by decide +kernel
theorem dX5_power_39 : decode cX5_power 39 = .ok (.getfield 78, 3) := by decide +kernel
theorem dX5_power_42 : decode cX5_power 42 = .ok (.ifCond .ne 7, 3) := by decide +kernel
theorem dX5_power_45 : decode cX5_power 45 = .ok (.ldc2_w 82, 3) := by decide +kernel
theorem dX5_power_48 : decode cX5_power 48 = .ok (.lreturn, 1) := by decide +kernel
theorem dX5_power_49 : decode cX5_power 49 = .ok (.aload_n 0, 1) := by decide +kernel
theorem dX5_power_50 : decode cX5_power 50 = .ok (.getfield 27, 3) := by decide +kernel
theorem dX5_power_53 : decode cX5_power 53 = .ok (.aload_n 0, 1) := by decide +kernel
theorem dX5_power_54 : decode cX5_power 54 = .ok (.getfield 10, 3) := by decide +kernel
theorem dX5_power_57 : decode cX5_power 57 = .ok (.getfield 39, 3) := by decide +kernel
theorem dX5_power_60 : decode cX5_power 60 = .ok (.getfield 61, 3) := by decide +kernel
theorem dX5_power_63 : decode cX5_power 63 = .ok (.invokevirtual 112, 3) := by decide +kernel
theorem dX5_power_66 : decode cX5_power 66 = .ok (.aload_n 0, 1) := by decide +kernel
theorem dX5_power_67 : decode cX5_power 67 = .ok (.getfield 27, 3) := by decide +kernel
theorem dX5_power_70 : decode cX5_power 70 = .ok (.getfield 88, 3) := by decide +kernel
theorem dX5_power_73 : decode cX5_power 73 = .ok (.iload_n 1, 1) := by decide +kernel
theorem dX5_power_74 : decode cX5_power 74 = .ok (.invokestatic 92, 3) := by decide +kernel
theorem dX5_power_77 : decode cX5_power 77 = .ok (.lreturn, 1) := by decide +kernel
theorem dX5_cutPower_0 : decode cX5_cutPower 0 = .ok (.iload_n 1, 1) := by decide +kernel
theorem dX5_cutPower_1 : decode cX5_cutPower 1 = .ok (.iconst 0, 1) := by decide +kernel
theorem dX5_cutPower_2 : decode cX5_cutPower 2 = .ok (.iconst 4, 1) := by decide +kernel
theorem dX5_cutPower_3 : decode cX5_cutPower 3 = .ok (.invokestatic 116, 3) := by decide +kernel
theorem dX5_cutPower_6 : decode cX5_cutPower 6 = .ok (.ifCond .eq 10, 3) := by decide +kernel
theorem dX5_cutPower_9 : decode cX5_cutPower 9 = .ok (.iload_n 2, 1) := by decide +kernel
theorem dX5_cutPower_10 : decode cX5_cutPower 10 = .ok (.invokestatic 69, 3) := by decide +kernel
theorem dX5_cutPower_13 : decode cX5_cutPower 13 = .ok (.ifCond .ne 7, 3) := by decide +kernel
theorem dX5_cutPower_16 : decode cX5_cutPower 16 = .ok (.ldc2_w 72, 3) := by decide +kernel
theorem dX5_cutPower_19 : decode cX5_cutPower 19 = .ok (.lreturn, 1) := by decide +kernel
theorem dX5_cutPower_20 : decode cX5_cutPower 20 = .ok (.aload_n 0, 1) := by decide +kernel
theorem dX5_cutPower_21 : decode cX5_cutPower 21 = .ok (.getfield 27, 3) := by decide +kernel
theorem dX5_cutPower_24 : decode cX5_cutPower 24 = .ok (.aload_n 0, 1) := by decide +kernel
theorem dX5_cutPower_25 : decode cX5_cutPower 25 = .ok (.getfield 10, 3) := by decide +kernel
theorem dX5_cutPower_28 : decode cX5_cutPower 28 = .ok (.getfield 39, 3) := by decide +kernel
theorem dX5_cutPower_31 : decode cX5_cutPower 31 = .ok (.iload_n 1, 1) := by decide +kernel
theorem dX5_cutPower_32 : decode cX5_cutPower 32 = .ok (.invokevirtual 120, 3) := by decide +kernel
theorem dX5_cutPower_35 : decode cX5_cutPower 35 = .ok (.aload_n 0, 1) := by decide +kernel
theorem dX5_cutPower_36 : decode cX5_cutPower 36 = .ok (.getfield 27, 3) := by decide +kernel
theorem dX5_cutPower_39 : decode cX5_cutPower 39 = .ok (.getfield 78, 3) := by decide +kernel
theorem dX5_cutPower_42 : decode cX5_cutPower 42 = .ok (.ifCond .ne 7, 3) := by decide +kernel
theorem dX5_cutPower_45 : decode cX5_cutPower 45 = .ok (.ldc2_w 82, 3) := by decide +kernel
theorem dX5_cutPower_48 : decode cX5_cutPower 48 = .ok (.lreturn, 1) := by decide +kernel
theorem dX5_cutPower_49 : decode cX5_cutPower 49 = .ok (.aload_n 0, 1) := by decide +kernel
theorem dX5_cutPower_50 : decode cX5_cutPower 50 = .ok (.getfield 27, 3) := by decide +kernel
theorem dX5_cutPower_53 : decode cX5_cutPower 53 = .ok (.aload_n 0, 1) := by decide +kernel
theorem dX5_cutPower_54 : decode cX5_cutPower 54 = .ok (.getfield 10, 3) := by decide +kernel
theorem dX5_cutPower_57 : decode cX5_cutPower 57 = .ok (.getfield 39, 3) := by decide +kernel
theorem dX5_cutPower_60 : decode cX5_cutPower 60 = .ok (.getfield 61, 3) := by decide +kernel
theorem dX5_cutPower_63 : decode cX5_cutPower 63 = .ok (.invokevirtual 112, 3) := by decide +kernel
theorem dX5_cutPower_66 : decode cX5_cutPower 66 = .ok (.aload_n 0, 1) := by decide +kernel
theorem dX5_cutPower_67 : decode cX5_cutPower 67 = .ok (.getfield 27, 3) := by decide +kernel
theorem dX5_cutPower_70 : decode cX5_cutPower 70 = .ok (.getfield 88, 3) := by decide +kernel
theorem dX5_cutPower_73 : decode cX5_cutPower 73 = .ok (.iload_n 2, 1) := by decide +kernel
theorem dX5_cutPower_74 : decode cX5_cutPower 74 = .ok (.invokestatic 92, 3) := by decide +kernel
theorem dX5_cutPower_77 : decode cX5_cutPower 77 = .ok (.lreturn, 1) := by decide +kernel
theorem dX5_finestCut_0 : decode cX5_finestCut 0 = .ok (.iload_n 1, 1) := by decide +kernel
theorem dX5_finestCut_1 : decode cX5_finestCut 1 = .ok (.iconst 0, 1) := by decide +kernel
theorem dX5_finestCut_2 : decode cX5_finestCut 2 = .ok (.ldc 124, 2) := by decide +kernel
theorem dX5_finestCut_4 : decode cX5_finestCut 4 = .ok (.invokestatic 116, 3) := by decide +kernel
theorem dX5_finestCut_7 : decode cX5_finestCut 7 = .ok (.ifCond .ne 6, 3) := by decide +kernel
theorem dX5_finestCut_10 : decode cX5_finestCut 10 = .ok (.bipush (-3), 2) := by decide +kernel
theorem dX5_finestCut_12 : decode cX5_finestCut 12 = .ok (.ireturn, 1) := by decide +kernel
theorem dX5_finestCut_13 : decode cX5_finestCut 13 = .ok (.iconst 4, 1) := by decide +kernel
theorem dX5_finestCut_14 : decode cX5_finestCut 14 = .ok (.istore_n 2, 1) := by decide +kernel
theorem dX5_finestCut_15 : decode cX5_finestCut 15 = .ok (.iload_n 2, 1) := by decide +kernel
theorem dX5_finestCut_16 : decode cX5_finestCut 16 = .ok (.ifCond .lt 67, 3) := by decide +kernel
theorem dX5_finestCut_19 : decode cX5_finestCut 19 = .ok (.aload_n 0, 1) := by decide +kernel
theorem dX5_finestCut_20 : decode cX5_finestCut 20 = .ok (.getfield 27, 3) := by decide +kernel
theorem dX5_finestCut_23 : decode cX5_finestCut 23 = .ok (.aload_n 0, 1) := by decide +kernel
theorem dX5_finestCut_24 : decode cX5_finestCut 24 = .ok (.getfield 10, 3) := by decide +kernel
theorem dX5_finestCut_27 : decode cX5_finestCut 27 = .ok (.getfield 39, 3) := by decide +kernel
theorem dX5_finestCut_30 : decode cX5_finestCut 30 = .ok (.iload_n 2, 1) := by decide +kernel
theorem dX5_finestCut_31 : decode cX5_finestCut 31 = .ok (.invokevirtual 120, 3) := by decide +kernel
theorem dX5_finestCut_34 : decode cX5_finestCut 34 = .ok (.aload_n 0, 1) := by decide +kernel
theorem dX5_finestCut_35 : decode cX5_finestCut 35 = .ok (.getfield 27, 3) := by decide +kernel
theorem dX5_finestCut_38 : decode cX5_finestCut 38 = .ok (.getfield 78, 3) := by decide +kernel
theorem dX5_finestCut_41 : decode cX5_finestCut 41 = .ok (.ifCond .eq 36, 3) := by decide +kernel
theorem dX5_finestCut_44 : decode cX5_finestCut 44 = .ok (.aload_n 0, 1) := by decide +kernel
theorem dX5_finestCut_45 : decode cX5_finestCut 45 = .ok (.getfield 27, 3) := by decide +kernel
theorem dX5_finestCut_48 : decode cX5_finestCut 48 = .ok (.aload_n 0, 1) := by decide +kernel
theorem dX5_finestCut_49 : decode cX5_finestCut 49 = .ok (.getfield 10, 3) := by decide +kernel
theorem dX5_finestCut_52 : decode cX5_finestCut 52 = .ok (.getfield 39, 3) := by decide +kernel
theorem dX5_finestCut_55 : decode cX5_finestCut 55 = .ok (.getfield 61, 3) := by decide +kernel
theorem dX5_finestCut_58 : decode cX5_finestCut 58 = .ok (.invokevirtual 112, 3) := by decide +kernel
theorem dX5_finestCut_61 : decode cX5_finestCut 61 = .ok (.iload_n 1, 1) := by decide +kernel
theorem dX5_finestCut_62 : decode cX5_finestCut 62 = .ok (.i2l, 1) := by decide +kernel
theorem dX5_finestCut_63 : decode cX5_finestCut 63 = .ok (.aload_n 0, 1) := by decide +kernel
theorem dX5_finestCut_64 : decode cX5_finestCut 64 = .ok (.getfield 27, 3) := by decide +kernel
theorem dX5_finestCut_67 : decode cX5_finestCut 67 = .ok (.getfield 88, 3) := by decide +kernel
theorem dX5_finestCut_70 : decode cX5_finestCut 70 = .ok (.lmul, 1) := by decide +kernel
theorem dX5_finestCut_71 : decode cX5_finestCut 71 = .ok (.lcmp, 1) := by decide +kernel
theorem dX5_finestCut_72 : decode cX5_finestCut 72 = .ok (.ifCond .gt 5, 3) := by decide +kernel
theorem dX5_finestCut_75 : decode cX5_finestCut 75 = .ok (.iload_n 2, 1) := by decide +kernel
theorem dX5_finestCut_76 : decode cX5_finestCut 76 = .ok (.ireturn, 1) := by decide +kernel
theorem dX5_finestCut_77 : decode cX5_finestCut 77 = .ok (.iinc 2 (-1), 3) := by decide +kernel
theorem dX5_finestCut_80 : decode cX5_finestCut 80 = .ok (.goto (-65), 3) := by decide +kernel
theorem dX5_finestCut_83 : decode cX5_finestCut 83 = .ok (.bipush (-7), 2) := by decide +kernel
theorem dX5_finestCut_85 : decode cX5_finestCut 85 = .ok (.ireturn, 1) := by decide +kernel
theorem dX5_addLot_0 : decode cX5_addLot 0 = .ok (.iload_n 1, 1) := by decide +kernel
theorem dX5_addLot_1 : decode cX5_addLot 1 = .ok (.iload_n 2, 1) := by decide +kernel
theorem dX5_addLot_2 : decode cX5_addLot 2 = .ok (.iload_n 3, 1) := by decide +kernel
theorem dX5_addLot_3 : decode cX5_addLot 3 = .ok (.iload 4, 2) := by decide +kernel
theorem dX5_addLot_5 : decode cX5_addLot 5 = .ok (.invokestatic 125, 3) := by decide +kernel
theorem dX5_addLot_8 : decode cX5_addLot 8 = .ok (.ifCond .ne 6, 3) := by decide +kernel
theorem dX5_addLot_11 : decode cX5_addLot 11 = .ok (.bipush (-3), 2) := by decide +kernel
theorem dX5_addLot_13 : decode cX5_addLot 13 = .ok (.ireturn, 1) := by decide +kernel
theorem dX5_addLot_14 : decode cX5_addLot 14 = .ok (.aload_n 0, 1) := by decide +kernel
theorem dX5_addLot_15 : decode cX5_addLot 15 = .ok (.getfield 10, 3) := by decide +kernel
theorem dX5_addLot_18 : decode cX5_addLot 18 = .ok (.getfield 129, 3) := by decide +kernel
theorem dX5_addLot_21 : decode cX5_addLot 21 = .ok (.astore 5, 2) := by decide +kernel
theorem dX5_addLot_23 : decode cX5_addLot 23 = .ok (.aload 5, 2) := by decide +kernel
theorem dX5_addLot_25 : decode cX5_addLot 25 = .ok (.iload_n 1, 1) := by decide +kernel
theorem dX5_addLot_26 : decode cX5_addLot 26 = .ok (.iload_n 2, 1) := by decide +kernel
theorem dX5_addLot_27 : decode cX5_addLot 27 = .ok (.iload_n 3, 1) := by decide +kernel
theorem dX5_addLot_28 : decode cX5_addLot 28 = .ok (.iload 4, 2) := by decide +kernel
theorem dX5_addLot_30 : decode cX5_addLot 30 = .ok (.invokevirtual 133, 3) := by decide +kernel
theorem dX5_addLot_33 : decode cX5_addLot 33 = .ok (.istore 6, 2) := by decide +kernel
theorem dX5_addLot_35 : decode cX5_addLot 35 = .ok (.aload 5, 2) := by decide +kernel
theorem dX5_addLot_37 : decode cX5_addLot 37 = .ok (.iload 6, 2) := by decide +kernel
theorem dX5_addLot_39 : decode cX5_addLot 39 = .ok (.invokevirtual 139, 3) := by decide +kernel
theorem dX5_addLot_42 : decode cX5_addLot 42 = .ok (.ifCond .ne 6, 3) := by decide +kernel
theorem dX5_addLot_45 : decode cX5_addLot 45 = .ok (.bipush (-4), 2) := by decide +kernel
theorem dX5_addLot_47 : decode cX5_addLot 47 = .ok (.ireturn, 1) := by decide +kernel
theorem dX5_addLot_48 : decode cX5_addLot 48 = .ok (.aload 5, 2) := by decide +kernel
theorem dX5_addLot_50 : decode cX5_addLot 50 = .ok (.aload 5, 2) := by decide +kernel
theorem dX5_addLot_52 : decode cX5_addLot 52 = .ok (.getfield 142, 3) := by decide +kernel
theorem dX5_addLot_55 : decode cX5_addLot 55 = .ok (.iload 6, 2) := by decide +kernel
theorem dX5_addLot_57 : decode cX5_addLot 57 = .ok (.aaload, 1) := by decide +kernel
theorem dX5_addLot_58 : decode cX5_addLot 58 = .ok (.invokevirtual 146, 3) := by decide +kernel
theorem dX5_addLot_61 : decode cX5_addLot 61 = .ok (.aload 5, 2) := by decide +kernel
theorem dX5_addLot_63 : decode cX5_addLot 63 = .ok (.aload_n 0, 1) := by decide +kernel
theorem dX5_addLot_64 : decode cX5_addLot 64 = .ok (.getfield 10, 3) := by decide +kernel
theorem dX5_addLot_67 : decode cX5_addLot 67 = .ok (.getfield 39, 3) := by decide +kernel
theorem dX5_addLot_70 : decode cX5_addLot 70 = .ok (.invokevirtual 150, 3) := by decide +kernel
theorem dX5_addLot_73 : decode cX5_addLot 73 = .ok (.iload 6, 2) := by decide +kernel
theorem dX5_addLot_75 : decode cX5_addLot 75 = .ok (.ireturn, 1) := by decide +kernel
theorem dX5_planLot_0 : decode cX5_planLot 0 = .ok (.iload_n 1, 1) := by decide +kernel
theorem dX5_planLot_1 : decode cX5_planLot 1 = .ok (.iconst 1, 1) := by decide +kernel
theorem dX5_planLot_2 : decode cX5_planLot 2 = .ok (.sipush 1000, 3) := by decide +kernel
theorem dX5_planLot_5 : decode cX5_planLot 5 = .ok (.invokestatic 116, 3) := by decide +kernel
theorem dX5_planLot_8 : decode cX5_planLot 8 = .ok (.ifCond .eq 15, 3) := by decide +kernel
theorem dX5_planLot_11 : decode cX5_planLot 11 = .ok (.iload_n 2, 1) := by decide +kernel
theorem dX5_planLot_12 : decode cX5_planLot 12 = .ok (.iload_n 3, 1) := by decide +kernel
theorem dX5_planLot_13 : decode cX5_planLot 13 = .ok (.iload 4, 2) := by decide +kernel
theorem dX5_planLot_15 : decode cX5_planLot 15 = .ok (.iload 5, 2) := by decide +kernel
theorem dX5_planLot_17 : decode cX5_planLot 17 = .ok (.invokestatic 125, 3) := by decide +kernel
theorem dX5_planLot_20 : decode cX5_planLot 20 = .ok (.ifCond .ne 6, 3) := by decide +kernel
theorem dX5_planLot_23 : decode cX5_planLot 23 = .ok (.bipush (-3), 2) := by decide +kernel
theorem dX5_planLot_25 : decode cX5_planLot 25 = .ok (.ireturn, 1) := by decide +kernel
theorem dX5_planLot_26 : decode cX5_planLot 26 = .ok (.aload_n 0, 1) := by decide +kernel
theorem dX5_planLot_27 : decode cX5_planLot 27 = .ok (.getfield 10, 3) := by decide +kernel
theorem dX5_planLot_30 : decode cX5_planLot 30 = .ok (.getfield 129, 3) := by decide +kernel
theorem dX5_planLot_33 : decode cX5_planLot 33 = .ok (.astore 6, 2) := by decide +kernel
theorem dX5_planLot_35 : decode cX5_planLot 35 = .ok (.aload 6, 2) := by decide +kernel
theorem dX5_planLot_37 : decode cX5_planLot 37 = .ok (.iload_n 2, 1) := by decide +kernel
theorem dX5_planLot_38 : decode cX5_planLot 38 = .ok (.iload_n 3, 1) := by decide +kernel
theorem dX5_planLot_39 : decode cX5_planLot 39 = .ok (.iload 4, 2) := by decide +kernel
theorem dX5_planLot_41 : decode cX5_planLot 41 = .ok (.iload 5, 2) := by decide +kernel
theorem dX5_planLot_43 : decode cX5_planLot 43 = .ok (.invokevirtual 133, 3) := by decide +kernel
theorem dX5_planLot_46 : decode cX5_planLot 46 = .ok (.istore 7, 2) := by decide +kernel
theorem dX5_planLot_48 : decode cX5_planLot 48 = .ok (.aload 6, 2) := by decide +kernel
theorem dX5_planLot_50 : decode cX5_planLot 50 = .ok (.iload 7, 2) := by decide +kernel
theorem dX5_planLot_52 : decode cX5_planLot 52 = .ok (.invokevirtual 139, 3) := by decide +kernel
theorem dX5_planLot_55 : decode cX5_planLot 55 = .ok (.ifCond .ne 6, 3) := by decide +kernel
theorem dX5_planLot_58 : decode cX5_planLot 58 = .ok (.bipush (-4), 2) := by decide +kernel
theorem dX5_planLot_60 : decode cX5_planLot 60 = .ok (.ireturn, 1) := by decide +kernel
theorem dX5_planLot_61 : decode cX5_planLot 61 = .ok (.aload 6, 2) := by decide +kernel
theorem dX5_planLot_63 : decode cX5_planLot 63 = .ok (.aload 6, 2) := by decide +kernel
theorem dX5_planLot_65 : decode cX5_planLot 65 = .ok (.getfield 142, 3) := by decide +kernel
theorem dX5_planLot_68 : decode cX5_planLot 68 = .ok (.iload 7, 2) := by decide +kernel
theorem dX5_planLot_70 : decode cX5_planLot 70 = .ok (.aaload, 1) := by decide +kernel
theorem dX5_planLot_71 : decode cX5_planLot 71 = .ok (.iload_n 1, 1) := by decide +kernel
theorem dX5_planLot_72 : decode cX5_planLot 72 = .ok (.invokevirtual 154, 3) := by decide +kernel
theorem dX5_planLot_75 : decode cX5_planLot 75 = .ok (.iload 7, 2) := by decide +kernel
theorem dX5_planLot_77 : decode cX5_planLot 77 = .ok (.ireturn, 1) := by decide +kernel
theorem dX5_advance_0 : decode cX5_advance 0 = .ok (.iload_n 1, 1) := by decide +kernel
theorem dX5_advance_1 : decode cX5_advance 1 = .ok (.iconst 1, 1) := by decide +kernel
theorem dX5_advance_2 : decode cX5_advance 2 = .ok (.sipush 500, 3) := by decide +kernel
theorem dX5_advance_5 : decode cX5_advance 5 = .ok (.invokestatic 116, 3) := by decide +kernel
theorem dX5_advance_8 : decode cX5_advance 8 = .ok (.ifCond .ne 6, 3) := by decide +kernel
theorem dX5_advance_11 : decode cX5_advance 11 = .ok (.bipush (-3), 2) := by decide +kernel
theorem dX5_advance_13 : decode cX5_advance 13 = .ok (.ireturn, 1) := by decide +kernel
theorem dX5_advance_14 : decode cX5_advance 14 = .ok (.aload_n 0, 1) := by decide +kernel
theorem dX5_advance_15 : decode cX5_advance 15 = .ok (.getfield 10, 3) := by decide +kernel
theorem dX5_advance_18 : decode cX5_advance 18 = .ok (.getfield 129, 3) := by decide +kernel
theorem dX5_advance_21 : decode cX5_advance 21 = .ok (.iload_n 1, 1) := by decide +kernel
theorem dX5_advance_22 : decode cX5_advance 22 = .ok (.aload_n 0, 1) := by decide +kernel
theorem dX5_advance_23 : decode cX5_advance 23 = .ok (.getfield 10, 3) := by decide +kernel
theorem dX5_advance_26 : decode cX5_advance 26 = .ok (.getfield 39, 3) := by decide +kernel
theorem dX5_advance_29 : decode cX5_advance 29 = .ok (.invokevirtual 158, 3) := by decide +kernel
theorem dX5_advance_32 : decode cX5_advance 32 = .ok (.aload_n 0, 1) := by decide +kernel
theorem dX5_advance_33 : decode cX5_advance 33 = .ok (.getfield 10, 3) := by decide +kernel
theorem dX5_advance_36 : decode cX5_advance 36 = .ok (.getfield 129, 3) := by decide +kernel
theorem dX5_advance_39 : decode cX5_advance 39 = .ok (.getfield 162, 3) := by decide +kernel
theorem dX5_advance_42 : decode cX5_advance 42 = .ok (.ireturn, 1) := by decide +kernel
theorem dX5_setRate_0 : decode cX5_setRate 0 = .ok (.iload_n 1, 1) := by decide +kernel
theorem dX5_setRate_1 : decode cX5_setRate 1 = .ok (.iconst 1, 1) := by decide +kernel
theorem dX5_setRate_2 : decode cX5_setRate 2 = .ok (.bipush 100, 2) := by decide +kernel
theorem dX5_setRate_4 : decode cX5_setRate 4 = .ok (.invokestatic 116, 3) := by decide +kernel
theorem dX5_setRate_7 : decode cX5_setRate 7 = .ok (.ifCond .ne 6, 3) := by decide +kernel
theorem dX5_setRate_10 : decode cX5_setRate 10 = .ok (.bipush (-3), 2) := by decide +kernel
theorem dX5_setRate_12 : decode cX5_setRate 12 = .ok (.ireturn, 1) := by decide +kernel
theorem dX5_setRate_13 : decode cX5_setRate 13 = .ok (.aload_n 0, 1) := by decide +kernel
theorem dX5_setRate_14 : decode cX5_setRate 14 = .ok (.getfield 10, 3) := by decide +kernel
theorem dX5_setRate_17 : decode cX5_setRate 17 = .ok (.getfield 39, 3) := by decide +kernel
theorem dX5_setRate_20 : decode cX5_setRate 20 = .ok (.getfield 166, 3) := by decide +kernel
theorem dX5_setRate_23 : decode cX5_setRate 23 = .ok (.istore_n 2, 1) := by decide +kernel
theorem dX5_setRate_24 : decode cX5_setRate 24 = .ok (.aload_n 0, 1) := by decide +kernel
theorem dX5_setRate_25 : decode cX5_setRate 25 = .ok (.getfield 10, 3) := by decide +kernel
theorem dX5_setRate_28 : decode cX5_setRate 28 = .ok (.getfield 39, 3) := by decide +kernel
theorem dX5_setRate_31 : decode cX5_setRate 31 = .ok (.iload_n 1, 1) := by decide +kernel
theorem dX5_setRate_32 : decode cX5_setRate 32 = .ok (.putfield 166, 3) := by decide +kernel
theorem dX5_setRate_35 : decode cX5_setRate 35 = .ok (.iload_n 2, 1) := by decide +kernel
theorem dX5_setRate_36 : decode cX5_setRate 36 = .ok (.ireturn, 1) := by decide +kernel
theorem dX5_setRule_0 : decode cX5_setRule 0 = .ok (.iload_n 1, 1) := by decide +kernel
theorem dX5_setRule_1 : decode cX5_setRule 1 = .ok (.iconst 0, 1) := by decide +kernel
theorem dX5_setRule_2 : decode cX5_setRule 2 = .ok (.iconst 2, 1) := by decide +kernel
theorem dX5_setRule_3 : decode cX5_setRule 3 = .ok (.invokestatic 116, 3) := by decide +kernel
theorem dX5_setRule_6 : decode cX5_setRule 6 = .ok (.ifCond .ne 6, 3) := by decide +kernel
theorem dX5_setRule_9 : decode cX5_setRule 9 = .ok (.bipush (-3), 2) := by decide +kernel
theorem dX5_setRule_11 : decode cX5_setRule 11 = .ok (.ireturn, 1) := by decide +kernel
theorem dX5_setRule_12 : decode cX5_setRule 12 = .ok (.aload_n 0, 1) := by decide +kernel
theorem dX5_setRule_13 : decode cX5_setRule 13 = .ok (.getfield 10, 3) := by decide +kernel
theorem dX5_setRule_16 : decode cX5_setRule 16 = .ok (.getfield 39, 3) := by decide +kernel
theorem dX5_setRule_19 : decode cX5_setRule 19 = .ok (.getfield 169, 3) := by decide +kernel
theorem dX5_setRule_22 : decode cX5_setRule 22 = .ok (.istore_n 2, 1) := by decide +kernel
theorem dX5_setRule_23 : decode cX5_setRule 23 = .ok (.aload_n 0, 1) := by decide +kernel
theorem dX5_setRule_24 : decode cX5_setRule 24 = .ok (.getfield 10, 3) := by decide +kernel
theorem dX5_setRule_27 : decode cX5_setRule 27 = .ok (.getfield 39, 3) := by decide +kernel
theorem dX5_setRule_30 : decode cX5_setRule 30 = .ok (.iload_n 1, 1) := by decide +kernel
theorem dX5_setRule_31 : decode cX5_setRule 31 = .ok (.putfield 169, 3) := by decide +kernel
theorem dX5_setRule_34 : decode cX5_setRule 34 = .ok (.iload_n 2, 1) := by decide +kernel
theorem dX5_setRule_35 : decode cX5_setRule 35 = .ok (.ireturn, 1) := by decide +kernel
theorem dX5_bin_0 : decode cX5_bin 0 = .ok (.iload_n 1, 1) := by decide +kernel
theorem dX5_bin_1 : decode cX5_bin 1 = .ok (.iconst (-1), 1) := by decide +kernel
theorem dX5_bin_2 : decode cX5_bin 2 = .ok (.if_icmp .ne 14, 3) := by decide +kernel
theorem dX5_bin_5 : decode cX5_bin 5 = .ok (.aload_n 0, 1) := by decide +kernel
theorem dX5_bin_6 : decode cX5_bin 6 = .ok (.getfield 10, 3) := by decide +kernel
theorem dX5_bin_9 : decode cX5_bin 9 = .ok (.getfield 129, 3) := by decide +kernel
theorem dX5_bin_12 : decode cX5_bin 12 = .ok (.invokevirtual 172, 3) := by decide +kernel
theorem dX5_bin_15 : decode cX5_bin 15 = .ok (.ireturn, 1) := by decide +kernel
theorem dX5_bin_16 : decode cX5_bin 16 = .ok (.aload_n 0, 1) := by decide +kernel
theorem dX5_bin_17 : decode cX5_bin 17 = .ok (.getfield 10, 3) := by decide +kernel
theorem dX5_bin_20 : decode cX5_bin 20 = .ok (.getfield 129, 3) := by decide +kernel
theorem dX5_bin_23 : decode cX5_bin 23 = .ok (.iload_n 1, 1) := by decide +kernel
theorem dX5_bin_24 : decode cX5_bin 24 = .ok (.aload_n 0, 1) := by decide +kernel
theorem dX5_bin_25 : decode cX5_bin 25 = .ok (.getfield 10, 3) := by decide +kernel
theorem dX5_bin_28 : decode cX5_bin 28 = .ok (.getfield 39, 3) := by decide +kernel
theorem dX5_bin_31 : decode cX5_bin 31 = .ok (.getfield 169, 3) := by decide +kernel
theorem dX5_bin_34 : decode cX5_bin 34 = .ok (.invokevirtual 176, 3) := by decide +kernel
theorem dX5_bin_37 : decode cX5_bin 37 = .ok (.istore_n 2, 1) := by decide +kernel
theorem dX5_bin_38 : decode cX5_bin 38 = .ok (.iload_n 2, 1) := by decide +kernel
theorem dX5_bin_39 : decode cX5_bin 39 = .ok (.iconst (-1), 1) := by decide +kernel
theorem dX5_bin_40 : decode cX5_bin 40 = .ok (.if_icmp .ne 8, 3) := by decide +kernel
theorem dX5_bin_43 : decode cX5_bin 43 = .ok (.bipush (-7), 2) := by decide +kernel
theorem dX5_bin_45 : decode cX5_bin 45 = .ok (.goto 4, 3) := by decide +kernel
theorem dX5_bin_48 : decode cX5_bin 48 = .ok (.iload_n 2, 1) := by decide +kernel
theorem dX5_bin_49 : decode cX5_bin 49 = .ok (.ireturn, 1) := by decide +kernel
theorem dX5_mill_0 : decode cX5_mill 0 = .ok (.iload_n 1, 1) := by decide +kernel
theorem dX5_mill_1 : decode cX5_mill 1 = .ok (.invokestatic 69, 3) := by decide +kernel
theorem dX5_mill_4 : decode cX5_mill 4 = .ok (.ifCond .ne 6, 3) := by decide +kernel
theorem dX5_mill_7 : decode cX5_mill 7 = .ok (.bipush (-3), 2) := by decide +kernel
theorem dX5_mill_9 : decode cX5_mill 9 = .ok (.ireturn, 1) := by decide +kernel
theorem dX5_mill_10 : decode cX5_mill 10 = .ok (.aload_n 0, 1) := by decide +kernel
theorem dX5_mill_11 : decode cX5_mill 11 = .ok (.getfield 10, 3) := by decide +kernel
theorem dX5_mill_14 : decode cX5_mill 14 = .ok (.getfield 129, 3) := by decide +kernel
theorem dX5_mill_17 : decode cX5_mill 17 = .ok (.astore_n 2, 1) := by decide +kernel
theorem dX5_mill_18 : decode cX5_mill 18 = .ok (.aload_n 2, 1) := by decide +kernel
theorem dX5_mill_19 : decode cX5_mill 19 = .ok (.invokevirtual 180, 3) := by decide +kernel
theorem dX5_mill_22 : decode cX5_mill 22 = .ok (.ifCond .eq 6, 3) := by decide +kernel
theorem dX5_mill_25 : decode cX5_mill 25 = .ok (.bipush (-7), 2) := by decide +kernel
theorem dX5_mill_27 : decode cX5_mill 27 = .ok (.ireturn, 1) := by decide +kernel
theorem dX5_mill_28 : decode cX5_mill 28 = .ok (.iload_n 1, 1) := by decide +kernel
theorem dX5_mill_29 : decode cX5_mill 29 = .ok (.ifCond .ne 10, 3) := by decide +kernel
theorem dX5_mill_32 : decode cX5_mill 32 = .ok (.aload_n 2, 1) := by decide +kernel
theorem dX5_mill_33 : decode cX5_mill 33 = .ok (.getfield 184, 3) := by decide +kernel
theorem dX5_mill_36 : decode cX5_mill 36 = .ok (.goto 12, 3) := by decide +kernel
theorem dX5_mill_39 : decode cX5_mill 39 = .ok (.aload_n 2, 1) := by decide +kernel
theorem dX5_mill_40 : decode cX5_mill 40 = .ok (.getfield 187, 3) := by decide +kernel
theorem dX5_mill_43 : decode cX5_mill 43 = .ok (.aload_n 2, 1) := by decide +kernel
theorem dX5_mill_44 : decode cX5_mill 44 = .ok (.getfield 162, 3) := by decide +kernel
theorem dX5_mill_47 : decode cX5_mill 47 = .ok (.isub, 1) := by decide +kernel
theorem dX5_mill_48 : decode cX5_mill 48 = .ok (.ireturn, 1) := by decide +kernel
theorem dX5_state_0 : decode cX5_state 0 = .ok (.aload_n 0, 1) := by decide +kernel
theorem dX5_state_1 : decode cX5_state 1 = .ok (.getfield 10, 3) := by decide +kernel
theorem dX5_state_4 : decode cX5_state 4 = .ok (.getfield 129, 3) := by decide +kernel
theorem dX5_state_7 : decode cX5_state 7 = .ok (.iload_n 1, 1) := by decide +kernel
theorem dX5_state_8 : decode cX5_state 8 = .ok (.invokevirtual 139, 3) := by decide +kernel
theorem dX5_state_11 : decode cX5_state 11 = .ok (.ifCond .ne 6, 3) := by decide +kernel
theorem dX5_state_14 : decode cX5_state 14 = .ok (.bipush (-2), 2) := by decide +kernel
theorem dX5_state_16 : decode cX5_state 16 = .ok (.ireturn, 1) := by decide +kernel
theorem dX5_state_17 : decode cX5_state 17 = .ok (.aload_n 0, 1) := by decide +kernel
theorem dX5_state_18 : decode cX5_state 18 = .ok (.getfield 10, 3) := by decide +kernel
theorem dX5_state_21 : decode cX5_state 21 = .ok (.getfield 129, 3) := by decide +kernel
theorem dX5_state_24 : decode cX5_state 24 = .ok (.getfield 142, 3) := by decide +kernel
theorem dX5_state_27 : decode cX5_state 27 = .ok (.iload_n 1, 1) := by decide +kernel
theorem dX5_state_28 : decode cX5_state 28 = .ok (.aaload, 1) := by decide +kernel
theorem dX5_state_29 : decode cX5_state 29 = .ok (.getfield 190, 3) := by decide +kernel
theorem dX5_state_32 : decode cX5_state 32 = .ok (.ireturn, 1) := by decide +kernel
theorem dX5_mass_0 : decode cX5_mass 0 = .ok (.aload_n 0, 1) := by decide +kernel
theorem dX5_mass_1 : decode cX5_mass 1 = .ok (.getfield 10, 3) := by decide +kernel
theorem dX5_mass_4 : decode cX5_mass 4 = .ok (.getfield 129, 3) := by decide +kernel
theorem dX5_mass_7 : decode cX5_mass 7 = .ok (.iload_n 1, 1) := by decide +kernel
theorem dX5_mass_8 : decode cX5_mass 8 = .ok (.invokevirtual 139, 3) := by decide +kernel
theorem dX5_mass_11 : decode cX5_mass 11 = .ok (.ifCond .ne 6, 3) := by decide +kernel
theorem dX5_mass_14 : decode cX5_mass 14 = .ok (.bipush (-2), 2) := by decide +kernel
theorem dX5_mass_16 : decode cX5_mass 16 = .ok (.ireturn, 1) := by decide +kernel
theorem dX5_mass_17 : decode cX5_mass 17 = .ok (.aload_n 0, 1) := by decide +kernel
theorem dX5_mass_18 : decode cX5_mass 18 = .ok (.getfield 10, 3) := by decide +kernel
theorem dX5_mass_21 : decode cX5_mass 21 = .ok (.getfield 129, 3) := by decide +kernel
theorem dX5_mass_24 : decode cX5_mass 24 = .ok (.getfield 142, 3) := by decide +kernel
theorem dX5_mass_27 : decode cX5_mass 27 = .ok (.iload_n 1, 1) := by decide +kernel
theorem dX5_mass_28 : decode cX5_mass 28 = .ok (.aaload, 1) := by decide +kernel
theorem dX5_mass_29 : decode cX5_mass 29 = .ok (.getfield 195, 3) := by decide +kernel
theorem dX5_mass_32 : decode cX5_mass 32 = .ok (.iload_n 2, 1) := by decide +kernel
theorem dX5_mass_33 : decode cX5_mass 33 = .ok (.invokestatic 198, 3) := by decide +kernel
theorem dX5_mass_36 : decode cX5_mass 36 = .ok (.ireturn, 1) := by decide +kernel
theorem dX5_passes_0 : decode cX5_passes 0 = .ok (.aload_n 0, 1) := by decide +kernel
theorem dX5_passes_1 : decode cX5_passes 1 = .ok (.getfield 10, 3) := by decide +kernel
theorem dX5_passes_4 : decode cX5_passes 4 = .ok (.getfield 129, 3) := by decide +kernel
theorem dX5_passes_7 : decode cX5_passes 7 = .ok (.iload_n 1, 1) := by decide +kernel
theorem dX5_passes_8 : decode cX5_passes 8 = .ok (.invokevirtual 139, 3) := by decide +kernel
theorem dX5_passes_11 : decode cX5_passes 11 = .ok (.ifCond .ne 6, 3) := by decide +kernel
theorem dX5_passes_14 : decode cX5_passes 14 = .ok (.bipush (-2), 2) := by decide +kernel
theorem dX5_passes_16 : decode cX5_passes 16 = .ok (.ireturn, 1) := by decide +kernel
theorem dX5_passes_17 : decode cX5_passes 17 = .ok (.aload_n 0, 1) := by decide +kernel
theorem dX5_passes_18 : decode cX5_passes 18 = .ok (.getfield 10, 3) := by decide +kernel
theorem dX5_passes_21 : decode cX5_passes 21 = .ok (.getfield 129, 3) := by decide +kernel
theorem dX5_passes_24 : decode cX5_passes 24 = .ok (.getfield 142, 3) := by decide +kernel
theorem dX5_passes_27 : decode cX5_passes 27 = .ok (.iload_n 1, 1) := by decide +kernel
theorem dX5_passes_28 : decode cX5_passes 28 = .ok (.aaload, 1) := by decide +kernel
theorem dX5_passes_29 : decode cX5_passes 29 = .ok (.getfield 202, 3) := by decide +kernel
theorem dX5_passes_32 : decode cX5_passes 32 = .ok (.ireturn, 1) := by decide +kernel
theorem dX5_produced_0 : decode cX5_produced 0 = .ok (.aload_n 0, 1) := by decide +kernel
theorem dX5_produced_1 : decode cX5_produced 1 = .ok (.getfield 10, 3) := by decide +kernel
theorem dX5_produced_4 : decode cX5_produced 4 = .ok (.getfield 129, 3) := by decide +kernel
theorem dX5_produced_7 : decode cX5_produced 7 = .ok (.getfield 205, 3) := by decide +kernel
theorem dX5_produced_10 : decode cX5_produced 10 = .ok (.iload_n 1, 1) := by decide +kernel
theorem dX5_produced_11 : decode cX5_produced 11 = .ok (.invokestatic 198, 3) := by decide +kernel
theorem dX5_produced_14 : decode cX5_produced 14 = .ok (.ireturn, 1) := by decide +kernel
theorem dX5_total_0 : decode cX5_total 0 = .ok (.aload_n 0, 1) := by decide +kernel
theorem dX5_total_1 : decode cX5_total 1 = .ok (.getfield 10, 3) := by decide +kernel
theorem dX5_total_4 : decode cX5_total 4 = .ok (.getfield 129, 3) := by decide +kernel
theorem dX5_total_7 : decode cX5_total 7 = .ok (.astore_n 2, 1) := by decide +kernel
theorem dX5_total_8 : decode cX5_total 8 = .ok (.iload_n 1, 1) := by decide +kernel
theorem dX5_total_9 : decode cX5_total 9 = .ok (.tableswitch 51 0 3 #[31, 36, 41, 46], 31) := by decide +kernel
theorem dX5_total_40 : decode cX5_total 40 = .ok (.aload_n 2, 1) := by decide +kernel
theorem dX5_total_41 : decode cX5_total 41 = .ok (.getfield 162, 3) := by decide +kernel
theorem dX5_total_44 : decode cX5_total 44 = .ok (.ireturn, 1) := by decide +kernel
theorem dX5_total_45 : decode cX5_total 45 = .ok (.aload_n 2, 1) := by decide +kernel
theorem dX5_total_46 : decode cX5_total 46 = .ok (.getfield 208, 3) := by decide +kernel
theorem dX5_total_49 : decode cX5_total 49 = .ok (.ireturn, 1) := by decide +kernel
theorem dX5_total_50 : decode cX5_total 50 = .ok (.aload_n 2, 1) := by decide +kernel
theorem dX5_total_51 : decode cX5_total 51 = .ok (.getfield 211, 3) := by decide +kernel
theorem dX5_total_54 : decode cX5_total 54 = .ok (.ireturn, 1) := by decide +kernel
theorem dX5_total_55 : decode cX5_total 55 = .ok (.aload_n 2, 1) := by decide +kernel
theorem dX5_total_56 : decode cX5_total 56 = .ok (.getfield 214, 3) := by decide +kernel
theorem dX5_total_59 : decode cX5_total 59 = .ok (.ireturn, 1) := by decide +kernel
theorem dX5_total_60 : decode cX5_total 60 = .ok (.bipush (-3), 2) := by decide +kernel
theorem dX5_total_62 : decode cX5_total 62 = .ok (.ireturn, 1) := by decide +kernel
theorem dX5_save_0 : decode cX5_save 0 = .ok (.iload_n 1, 1) := by decide +kernel
theorem dX5_save_1 : decode cX5_save 1 = .ok (.invokestatic 217, 3) := by decide +kernel
theorem dX5_save_4 : decode cX5_save 4 = .ok (.ifCond .ne 6, 3) := by decide +kernel
theorem dX5_save_7 : decode cX5_save 7 = .ok (.bipush (-3), 2) := by decide +kernel
theorem dX5_save_9 : decode cX5_save 9 = .ok (.ireturn, 1) := by decide +kernel
theorem dX5_save_10 : decode cX5_save 10 = .ok (.aload_n 0, 1) := by decide +kernel
theorem dX5_save_11 : decode cX5_save 11 = .ok (.getfield 16, 3) := by decide +kernel
theorem dX5_save_14 : decode cX5_save 14 = .ok (.iload_n 1, 1) := by decide +kernel
theorem dX5_save_15 : decode cX5_save 15 = .ok (.aaload, 1) := by decide +kernel
theorem dX5_save_16 : decode cX5_save 16 = .ok (.aload_n 0, 1) := by decide +kernel
theorem dX5_save_17 : decode cX5_save 17 = .ok (.getfield 10, 3) := by decide +kernel
theorem dX5_save_20 : decode cX5_save 20 = .ok (.invokevirtual 220, 3) := by decide +kernel
theorem dX5_save_23 : decode cX5_save 23 = .ok (.aload_n 0, 1) := by decide +kernel
theorem dX5_save_24 : decode cX5_save 24 = .ok (.getfield 20, 3) := by decide +kernel
theorem dX5_save_27 : decode cX5_save 27 = .ok (.iload_n 1, 1) := by decide +kernel
theorem dX5_save_28 : decode cX5_save 28 = .ok (.iconst 1, 1) := by decide +kernel
theorem dX5_save_29 : decode cX5_save 29 = .ok (.bastore, 1) := by decide +kernel
theorem dX5_save_30 : decode cX5_save 30 = .ok (.aload_n 0, 1) := by decide +kernel
theorem dX5_save_31 : decode cX5_save 31 = .ok (.getfield 10, 3) := by decide +kernel
theorem dX5_save_34 : decode cX5_save 34 = .ok (.getfield 129, 3) := by decide +kernel
theorem dX5_save_37 : decode cX5_save 37 = .ok (.getfield 162, 3) := by decide +kernel
theorem dX5_save_40 : decode cX5_save 40 = .ok (.ireturn, 1) := by decide +kernel
theorem dX5_restore_0 : decode cX5_restore 0 = .ok (.iload_n 1, 1) := by decide +kernel
theorem dX5_restore_1 : decode cX5_restore 1 = .ok (.invokestatic 217, 3) := by decide +kernel
theorem dX5_restore_4 : decode cX5_restore 4 = .ok (.ifCond .ne 6, 3) := by decide +kernel
theorem dX5_restore_7 : decode cX5_restore 7 = .ok (.bipush (-3), 2) := by decide +kernel
theorem dX5_restore_9 : decode cX5_restore 9 = .ok (.ireturn, 1) := by decide +kernel
theorem dX5_restore_10 : decode cX5_restore 10 = .ok (.aload_n 0, 1) := by decide +kernel
theorem dX5_restore_11 : decode cX5_restore 11 = .ok (.getfield 20, 3) := by decide +kernel
theorem dX5_restore_14 : decode cX5_restore 14 = .ok (.iload_n 1, 1) := by decide +kernel
theorem dX5_restore_15 : decode cX5_restore 15 = .ok (.baload, 1) := by decide +kernel
theorem dX5_restore_16 : decode cX5_restore 16 = .ok (.ifCond .ne 6, 3) := by decide +kernel
theorem dX5_restore_19 : decode cX5_restore 19 = .ok (.bipush (-6), 2) := by decide +kernel
theorem dX5_restore_21 : decode cX5_restore 21 = .ok (.ireturn, 1) := by decide +kernel
theorem dX5_restore_22 : decode cX5_restore 22 = .ok (.aload_n 0, 1) := by decide +kernel
theorem dX5_restore_23 : decode cX5_restore 23 = .ok (.getfield 10, 3) := by decide +kernel
theorem dX5_restore_26 : decode cX5_restore 26 = .ok (.aload_n 0, 1) := by decide +kernel
theorem dX5_restore_27 : decode cX5_restore 27 = .ok (.getfield 16, 3) := by decide +kernel
theorem dX5_restore_30 : decode cX5_restore 30 = .ok (.iload_n 1, 1) := by decide +kernel
theorem dX5_restore_31 : decode cX5_restore 31 = .ok (.aaload, 1) := by decide +kernel
theorem dX5_restore_32 : decode cX5_restore 32 = .ok (.invokevirtual 220, 3) := by decide +kernel
theorem dX5_restore_35 : decode cX5_restore 35 = .ok (.aload_n 0, 1) := by decide +kernel
theorem dX5_restore_36 : decode cX5_restore 36 = .ok (.getfield 10, 3) := by decide +kernel
theorem dX5_restore_39 : decode cX5_restore 39 = .ok (.getfield 129, 3) := by decide +kernel
theorem dX5_restore_42 : decode cX5_restore 42 = .ok (.getfield 162, 3) := by decide +kernel
theorem dX5_restore_45 : decode cX5_restore 45 = .ok (.ireturn, 1) := by decide +kernel
theorem dX5_isWithin_0 : decode cX5_isWithin 0 = .ok (.iload_n 0, 1) := by decide +kernel
theorem dX5_isWithin_1 : decode cX5_isWithin 1 = .ok (.iload_n 1, 1) := by decide +kernel
theorem dX5_isWithin_2 : decode cX5_isWithin 2 = .ok (.if_icmp .lt 12, 3) := by decide +kernel
theorem dX5_isWithin_5 : decode cX5_isWithin 5 = .ok (.iload_n 0, 1) := by decide +kernel
theorem dX5_isWithin_6 : decode cX5_isWithin 6 = .ok (.iload_n 2, 1) := by decide +kernel
theorem dX5_isWithin_7 : decode cX5_isWithin 7 = .ok (.if_icmp .gt 7, 3) := by decide +kernel
theorem dX5_isWithin_10 : decode cX5_isWithin 10 = .ok (.iconst 1, 1) := by decide +kernel
theorem dX5_isWithin_11 : decode cX5_isWithin 11 = .ok (.goto 4, 3) := by decide +kernel
theorem dX5_isWithin_14 : decode cX5_isWithin 14 = .ok (.iconst 0, 1) := by decide +kernel
theorem dX5_isWithin_15 : decode cX5_isWithin 15 = .ok (.ireturn, 1) := by decide +kernel
theorem dX5_isSize_0 : decode cX5_isSize 0 = .ok (.iload_n 0, 1) := by decide +kernel
theorem dX5_isSize_1 : decode cX5_isSize 1 = .ok (.iconst 0, 1) := by decide +kernel
theorem dX5_isSize_2 : decode cX5_isSize 2 = .ok (.iconst 3, 1) := by decide +kernel
theorem dX5_isSize_3 : decode cX5_isSize 3 = .ok (.invokestatic 116, 3) := by decide +kernel
theorem dX5_isSize_6 : decode cX5_isSize 6 = .ok (.ireturn, 1) := by decide +kernel
theorem dX5_isZeroOrOne_0 : decode cX5_isZeroOrOne 0 = .ok (.iload_n 0, 1) := by decide +kernel
theorem dX5_isZeroOrOne_1 : decode cX5_isZeroOrOne 1 = .ok (.ifCond .eq 8, 3) := by decide +kernel
theorem dX5_isZeroOrOne_4 : decode cX5_isZeroOrOne 4 = .ok (.iload_n 0, 1) := by decide +kernel
theorem dX5_isZeroOrOne_5 : decode cX5_isZeroOrOne 5 = .ok (.iconst 1, 1) := by decide +kernel
theorem dX5_isZeroOrOne_6 : decode cX5_isZeroOrOne 6 = .ok (.if_icmp .ne 7, 3) := by decide +kernel
theorem dX5_isZeroOrOne_9 : decode cX5_isZeroOrOne 9 = .ok (.iconst 1, 1) := by decide +kernel
theorem dX5_isZeroOrOne_10 : decode cX5_isZeroOrOne 10 = .ok (.goto 4, 3) := by decide +kernel
theorem dX5_isZeroOrOne_13 : decode cX5_isZeroOrOne 13 = .ok (.iconst 0, 1) := by decide +kernel
theorem dX5_isZeroOrOne_14 : decode cX5_isZeroOrOne 14 = .ok (.ireturn, 1) := by decide +kernel
theorem dX5_isSlot_0 : decode cX5_isSlot 0 = .ok (.iload_n 0, 1) := by decide +kernel
theorem dX5_isSlot_1 : decode cX5_isSlot 1 = .ok (.iconst 0, 1) := by decide +kernel
theorem dX5_isSlot_2 : decode cX5_isSlot 2 = .ok (.iconst 1, 1) := by decide +kernel
theorem dX5_isSlot_3 : decode cX5_isSlot 3 = .ok (.invokestatic 116, 3) := by decide +kernel
theorem dX5_isSlot_6 : decode cX5_isSlot 6 = .ok (.ireturn, 1) := by decide +kernel
theorem dX5_isShareTo_0 : decode cX5_isShareTo 0 = .ok (.iload_n 1, 1) := by decide +kernel
theorem dX5_isShareTo_1 : decode cX5_isShareTo 1 = .ok (.iconst 0, 1) := by decide +kernel
theorem dX5_isShareTo_2 : decode cX5_isShareTo 2 = .ok (.iload_n 0, 1) := by decide +kernel
theorem dX5_isShareTo_3 : decode cX5_isShareTo 3 = .ok (.invokestatic 31, 3) := by decide +kernel
theorem dX5_isShareTo_6 : decode cX5_isShareTo 6 = .ok (.ifCond .eq 8, 3) := by decide +kernel
theorem dX5_isShareTo_9 : decode cX5_isShareTo 9 = .ok (.bipush 10, 2) := by decide +kernel
theorem dX5_isShareTo_11 : decode cX5_isShareTo 11 = .ok (.goto 4, 3) := by decide +kernel
theorem dX5_isShareTo_14 : decode cX5_isShareTo 14 = .ok (.iconst 0, 1) := by decide +kernel
theorem dX5_isShareTo_15 : decode cX5_isShareTo 15 = .ok (.invokestatic 116, 3) := by decide +kernel
theorem dX5_isShareTo_18 : decode cX5_isShareTo 18 = .ok (.ireturn, 1) := by decide +kernel
theorem dX5_isLotMass_0 : decode cX5_isLotMass 0 = .ok (.iload_n 0, 1) := by decide +kernel
theorem dX5_isLotMass_1 : decode cX5_isLotMass 1 = .ok (.iconst 0, 1) := by decide +kernel
theorem dX5_isLotMass_2 : decode cX5_isLotMass 2 = .ok (.sipush 200, 3) := by decide +kernel
theorem dX5_isLotMass_5 : decode cX5_isLotMass 5 = .ok (.invokestatic 116, 3) := by decide +kernel
theorem dX5_isLotMass_8 : decode cX5_isLotMass 8 = .ok (.ireturn, 1) := by decide +kernel
theorem dX5_areLotMasses_0 : decode cX5_areLotMasses 0 = .ok (.iload_n 0, 1) := by decide +kernel
theorem dX5_areLotMasses_1 : decode cX5_areLotMasses 1 = .ok (.invokestatic 224, 3) := by decide +kernel
theorem dX5_areLotMasses_4 : decode cX5_areLotMasses 4 = .ok (.ifCond .eq 38, 3) := by decide +kernel
theorem dX5_areLotMasses_7 : decode cX5_areLotMasses 7 = .ok (.iload_n 1, 1) := by decide +kernel
theorem dX5_areLotMasses_8 : decode cX5_areLotMasses 8 = .ok (.invokestatic 224, 3) := by decide +kernel
theorem dX5_areLotMasses_11 : decode cX5_areLotMasses 11 = .ok (.ifCond .eq 31, 3) := by decide +kernel
theorem dX5_areLotMasses_14 : decode cX5_areLotMasses 14 = .ok (.iload_n 2, 1) := by decide +kernel
theorem dX5_areLotMasses_15 : decode cX5_areLotMasses 15 = .ok (.invokestatic 224, 3) := by decide +kernel
theorem dX5_areLotMasses_18 : decode cX5_areLotMasses 18 = .ok (.ifCond .eq 24, 3) := by decide +kernel
theorem dX5_areLotMasses_21 : decode cX5_areLotMasses 21 = .ok (.iload_n 3, 1) := by decide +kernel
theorem dX5_areLotMasses_22 : decode cX5_areLotMasses 22 = .ok (.invokestatic 224, 3) := by decide +kernel
theorem dX5_areLotMasses_25 : decode cX5_areLotMasses 25 = .ok (.ifCond .eq 17, 3) := by decide +kernel
theorem dX5_areLotMasses_28 : decode cX5_areLotMasses 28 = .ok (.iload_n 0, 1) := by decide +kernel
theorem dX5_areLotMasses_29 : decode cX5_areLotMasses 29 = .ok (.iload_n 1, 1) := by decide +kernel
theorem dX5_areLotMasses_30 : decode cX5_areLotMasses 30 = .ok (.iadd, 1) := by decide +kernel
theorem dX5_areLotMasses_31 : decode cX5_areLotMasses 31 = .ok (.iload_n 2, 1) := by decide +kernel
theorem dX5_areLotMasses_32 : decode cX5_areLotMasses 32 = .ok (.iadd, 1) := by decide +kernel
theorem dX5_areLotMasses_33 : decode cX5_areLotMasses 33 = .ok (.iload_n 3, 1) := by decide +kernel
theorem dX5_areLotMasses_34 : decode cX5_areLotMasses 34 = .ok (.iadd, 1) := by decide +kernel
theorem dX5_areLotMasses_35 : decode cX5_areLotMasses 35 = .ok (.ifCond .le 7, 3) := by decide +kernel
theorem dX5_areLotMasses_38 : decode cX5_areLotMasses 38 = .ok (.iconst 1, 1) := by decide +kernel
theorem dX5_areLotMasses_39 : decode cX5_areLotMasses 39 = .ok (.goto 4, 3) := by decide +kernel
theorem dX5_areLotMasses_42 : decode cX5_areLotMasses 42 = .ok (.iconst 0, 1) := by decide +kernel
theorem dX5_areLotMasses_43 : decode cX5_areLotMasses 43 = .ok (.ireturn, 1) := by decide +kernel
theorem dX5_exchange_0 : decode cX5_exchange 0 = .ok (.iload_n 1, 1) := by decide +kernel
theorem dX5_exchange_1 : decode cX5_exchange 1 = .ok (.invokestatic 31, 3) := by decide +kernel
theorem dX5_exchange_4 : decode cX5_exchange 4 = .ok (.ifCond .ne 5, 3) := by decide +kernel
theorem dX5_exchange_7 : decode cX5_exchange 7 = .ok (.iconst (-1), 1) := by decide +kernel
theorem dX5_exchange_8 : decode cX5_exchange 8 = .ok (.ireturn, 1) := by decide +kernel
theorem dX5_exchange_9 : decode cX5_exchange 9 = .ok (.iload_n 2, 1) := by decide +kernel
theorem dX5_exchange_10 : decode cX5_exchange 10 = .ok (.iconst 0, 1) := by decide +kernel
theorem dX5_exchange_11 : decode cX5_exchange 11 = .ok (.iload_n 3, 1) := by decide +kernel
theorem dX5_exchange_12 : decode cX5_exchange 12 = .ok (.invokestatic 116, 3) := by decide +kernel
theorem dX5_exchange_15 : decode cX5_exchange 15 = .ok (.ifCond .ne 6, 3) := by decide +kernel
theorem dX5_exchange_18 : decode cX5_exchange 18 = .ok (.bipush (-3), 2) := by decide +kernel
theorem dX5_exchange_20 : decode cX5_exchange 20 = .ok (.ireturn, 1) := by decide +kernel
theorem dX5_exchange_21 : decode cX5_exchange 21 = .ok (.aload_n 0, 1) := by decide +kernel
theorem dX5_exchange_22 : decode cX5_exchange 22 = .ok (.iload_n 1, 1) := by decide +kernel
theorem dX5_exchange_23 : decode cX5_exchange 23 = .ok (.iaload, 1) := by decide +kernel
theorem dX5_exchange_24 : decode cX5_exchange 24 = .ok (.istore 4, 2) := by decide +kernel
theorem dX5_exchange_26 : decode cX5_exchange 26 = .ok (.aload_n 0, 1) := by decide +kernel
theorem dX5_exchange_27 : decode cX5_exchange 27 = .ok (.iload_n 1, 1) := by decide +kernel
theorem dX5_exchange_28 : decode cX5_exchange 28 = .ok (.iload_n 2, 1) := by decide +kernel
theorem dX5_exchange_29 : decode cX5_exchange 29 = .ok (.iastore, 1) := by decide +kernel
theorem dX5_exchange_30 : decode cX5_exchange 30 = .ok (.iload 4, 2) := by decide +kernel
theorem dX5_exchange_32 : decode cX5_exchange 32 = .ok (.ireturn, 1) := by decide +kernel
theorem dX5_sizeOrAll_0 : decode cX5_sizeOrAll 0 = .ok (.iload_n 1, 1) := by decide +kernel
theorem dX5_sizeOrAll_1 : decode cX5_sizeOrAll 1 = .ok (.iconst (-1), 1) := by decide +kernel
theorem dX5_sizeOrAll_2 : decode cX5_sizeOrAll 2 = .ok (.if_icmp .ne 8, 3) := by decide +kernel
theorem dX5_sizeOrAll_5 : decode cX5_sizeOrAll 5 = .ok (.aload_n 0, 1) := by decide +kernel
theorem dX5_sizeOrAll_6 : decode cX5_sizeOrAll 6 = .ok (.invokestatic 102, 3) := by decide +kernel
theorem dX5_sizeOrAll_9 : decode cX5_sizeOrAll 9 = .ok (.ireturn, 1) := by decide +kernel
theorem dX5_sizeOrAll_10 : decode cX5_sizeOrAll 10 = .ok (.iload_n 1, 1) := by decide +kernel
theorem dX5_sizeOrAll_11 : decode cX5_sizeOrAll 11 = .ok (.invokestatic 31, 3) := by decide +kernel
theorem dX5_sizeOrAll_14 : decode cX5_sizeOrAll 14 = .ok (.ifCond .eq 9, 3) := by decide +kernel
theorem dX5_sizeOrAll_17 : decode cX5_sizeOrAll 17 = .ok (.aload_n 0, 1) := by decide +kernel
theorem dX5_sizeOrAll_18 : decode cX5_sizeOrAll 18 = .ok (.iload_n 1, 1) := by decide +kernel
theorem dX5_sizeOrAll_19 : decode cX5_sizeOrAll 19 = .ok (.iaload, 1) := by decide +kernel
theorem dX5_sizeOrAll_20 : decode cX5_sizeOrAll 20 = .ok (.goto 4, 3) := by decide +kernel
theorem dX5_sizeOrAll_23 : decode cX5_sizeOrAll 23 = .ok (.iconst (-1), 1) := by decide +kernel
theorem dX5_sizeOrAll_24 : decode cX5_sizeOrAll 24 = .ok (.ireturn, 1) := by decide +kernel
theorem dX5_sum_0 : decode cX5_sum 0 = .ok (.iconst 0, 1) := by decide +kernel
theorem dX5_sum_1 : decode cX5_sum 1 = .ok (.istore_n 1, 1) := by decide +kernel
theorem dX5_sum_2 : decode cX5_sum 2 = .ok (.aload_n 0, 1) := by decide +kernel
theorem dX5_sum_3 : decode cX5_sum 3 = .ok (.astore_n 2, 1) := by decide +kernel
theorem dX5_sum_4 : decode cX5_sum 4 = .ok (.aload_n 2, 1) := by decide +kernel
theorem dX5_sum_5 : decode cX5_sum 5 = .ok (.arraylength, 1) := by decide +kernel
theorem dX5_sum_6 : decode cX5_sum 6 = .ok (.istore_n 3, 1) := by decide +kernel
theorem dX5_sum_7 : decode cX5_sum 7 = .ok (.iconst 0, 1) := by decide +kernel
theorem dX5_sum_8 : decode cX5_sum 8 = .ok (.istore 4, 2) := by decide +kernel
theorem dX5_sum_10 : decode cX5_sum 10 = .ok (.iload 4, 2) := by decide +kernel
theorem dX5_sum_12 : decode cX5_sum 12 = .ok (.iload_n 3, 1) := by decide +kernel
theorem dX5_sum_13 : decode cX5_sum 13 = .ok (.if_icmp .ge 20, 3) := by decide +kernel
theorem dX5_sum_16 : decode cX5_sum 16 = .ok (.aload_n 2, 1) := by decide +kernel
theorem dX5_sum_17 : decode cX5_sum 17 = .ok (.iload 4, 2) := by decide +kernel
theorem dX5_sum_19 : decode cX5_sum 19 = .ok (.iaload, 1) := by decide +kernel
theorem dX5_sum_20 : decode cX5_sum 20 = .ok (.istore 5, 2) := by decide +kernel
theorem dX5_sum_22 : decode cX5_sum 22 = .ok (.iload_n 1, 1) := by decide +kernel
theorem dX5_sum_23 : decode cX5_sum 23 = .ok (.iload 5, 2) := by decide +kernel
theorem dX5_sum_25 : decode cX5_sum 25 = .ok (.iadd, 1) := by decide +kernel
theorem dX5_sum_26 : decode cX5_sum 26 = .ok (.istore_n 1, 1) := by decide +kernel
theorem dX5_sum_27 : decode cX5_sum 27 = .ok (.iinc 4 1, 3) := by decide +kernel
theorem dX5_sum_30 : decode cX5_sum 30 = .ok (.goto (-20), 3) := by decide +kernel
theorem dX5_sum_33 : decode cX5_sum 33 = .ok (.iload_n 1, 1) := by decide +kernel
theorem dX5_sum_34 : decode cX5_sum 34 = .ok (.ireturn, 1) := by decide +kernel
theorem dX5_partOf_0 : decode cX5_partOf 0 = .ok (.lconst 1, 1) := by decide +kernel
theorem dX5_partOf_1 : decode cX5_partOf 1 = .ok (.lload_n 0, 1) := by decide +kernel
theorem dX5_partOf_2 : decode cX5_partOf 2 = .ok (.lload_n 2, 1) := by decide +kernel
theorem dX5_partOf_3 : decode cX5_partOf 3 = .ok (.invokestatic 227, 3) := by decide +kernel
theorem dX5_partOf_6 : decode cX5_partOf 6 = .ok (.invokestatic 231, 3) := by decide +kernel
theorem dX5_partOf_9 : decode cX5_partOf 9 = .ok (.lstore 5, 2) := by decide +kernel
theorem dX5_partOf_11 : decode cX5_partOf 11 = .ok (.iload 4, 2) := by decide +kernel
theorem dX5_partOf_13 : decode cX5_partOf 13 = .ok (.ifCond .ne 7, 3) := by decide +kernel
theorem dX5_partOf_16 : decode cX5_partOf 16 = .ok (.lload_n 0, 1) := by decide +kernel
theorem dX5_partOf_17 : decode cX5_partOf 17 = .ok (.goto 4, 3) := by decide +kernel
theorem dX5_partOf_20 : decode cX5_partOf 20 = .ok (.lload_n 2, 1) := by decide +kernel
theorem dX5_partOf_21 : decode cX5_partOf 21 = .ok (.lload 5, 2) := by decide +kernel
theorem dX5_partOf_23 : decode cX5_partOf 23 = .ok (.ldiv, 1) := by decide +kernel
theorem dX5_partOf_24 : decode cX5_partOf 24 = .ok (.lreturn, 1) := by decide +kernel
theorem dX5_commonDivisor_0 : decode cX5_commonDivisor 0 = .ok (.lload_n 0, 1) := by decide +kernel
theorem dX5_commonDivisor_1 : decode cX5_commonDivisor 1 = .ok (.lstore 4, 2) := by decide +kernel
theorem dX5_commonDivisor_3 : decode cX5_commonDivisor 3 = .ok (.lload_n 2, 1) := by decide +kernel
theorem dX5_commonDivisor_4 : decode cX5_commonDivisor 4 = .ok (.lstore 6, 2) := by decide +kernel
theorem dX5_commonDivisor_6 : decode cX5_commonDivisor 6 = .ok (.iconst 0, 1) := by decide +kernel
theorem dX5_commonDivisor_7 : decode cX5_commonDivisor 7 = .ok (.istore 8, 2) := by decide +kernel
theorem dX5_commonDivisor_9 : decode cX5_commonDivisor 9 = .ok (.iload 8, 2) := by decide +kernel
theorem dX5_commonDivisor_11 : decode cX5_commonDivisor 11 = .ok (.bipush 100, 2) := by decide +kernel
theorem dX5_commonDivisor_13 : decode cX5_commonDivisor 13 = .ok (.if_icmp .ge 31, 3) := by decide +kernel
theorem dX5_commonDivisor_16 : decode cX5_commonDivisor 16 = .ok (.lload 6, 2) := by decide +kernel
theorem dX5_commonDivisor_18 : decode cX5_commonDivisor 18 = .ok (.lconst 0, 1) := by decide +kernel
theorem dX5_commonDivisor_19 : decode cX5_commonDivisor 19 = .ok (.lcmp, 1) := by decide +kernel
theorem dX5_commonDivisor_20 : decode cX5_commonDivisor 20 = .ok (.ifCond .eq 24, 3) := by decide +kernel
theorem dX5_commonDivisor_23 : decode cX5_commonDivisor 23 = .ok (.lload 4, 2) := by decide +kernel
theorem dX5_commonDivisor_25 : decode cX5_commonDivisor 25 = .ok (.lload 6, 2) := by decide +kernel
theorem dX5_commonDivisor_27 : decode cX5_commonDivisor 27 = .ok (.lrem, 1) := by decide +kernel
theorem dX5_commonDivisor_28 : decode cX5_commonDivisor 28 = .ok (.lstore 9, 2) := by decide +kernel
theorem dX5_commonDivisor_30 : decode cX5_commonDivisor 30 = .ok (.lload 6, 2) := by decide +kernel
theorem dX5_commonDivisor_32 : decode cX5_commonDivisor 32 = .ok (.lstore 4, 2) := by decide +kernel
theorem dX5_commonDivisor_34 : decode cX5_commonDivisor 34 = .ok (.lload 9, 2) := by decide +kernel
theorem dX5_commonDivisor_36 : decode cX5_commonDivisor 36 = .ok (.lstore 6, 2) := by decide +kernel
theorem dX5_commonDivisor_38 : decode cX5_commonDivisor 38 = .ok (.iinc 8 1, 3) := by decide +kernel
theorem dX5_commonDivisor_41 : decode cX5_commonDivisor 41 = .ok (.goto (-32), 3) := by decide +kernel
theorem dX5_commonDivisor_44 : decode cX5_commonDivisor 44 = .ok (.lload 4, 2) := by decide +kernel
theorem dX5_commonDivisor_46 : decode cX5_commonDivisor 46 = .ok (.lreturn, 1) := by decide +kernel
theorem dX6_init_0 : decode cX6_init 0 = .ok (.aload_n 0, 1) := by decide +kernel
theorem dX6_init_1 : decode cX6_init 1 = .ok (.invokespecial 1, 3) := by decide +kernel
theorem dX6_init_4 : decode cX6_init 4 = .ok (.aload_n 0, 1) := by decide +kernel
theorem dX6_init_5 : decode cX6_init 5 = .ok (.sipush 361, 3) := by decide +kernel
theorem dX6_init_8 : decode cX6_init 8 = .ok (.newarray .int, 2) := by decide +kernel
theorem dX6_init_10 : decode cX6_init 10 = .ok (.putfield 7, 3) := by decide +kernel
theorem dX6_init_13 : decode cX6_init 13 = .ok (.aload_n 0, 1) := by decide +kernel
theorem dX6_init_14 : decode cX6_init 14 = .ok (.sipush 722, 3) := by decide +kernel
theorem dX6_init_17 : decode cX6_init 17 = .ok (.newarray .int, 2) := by decide +kernel
theorem dX6_init_19 : decode cX6_init 19 = .ok (.putfield 13, 3) := by decide +kernel
theorem dX6_init_22 : decode cX6_init 22 = .ok (.aload_n 0, 1) := by decide +kernel
theorem dX6_init_23 : decode cX6_init 23 = .ok (.iconst 2, 1) := by decide +kernel
theorem dX6_init_24 : decode cX6_init 24 = .ok (.newarray .boolean, 2) := by decide +kernel
theorem dX6_init_26 : decode cX6_init 26 = .ok (.putfield 16, 3) := by decide +kernel
theorem dX6_init_29 : decode cX6_init 29 = .ok (.aload_n 0, 1) := by decide +kernel
theorem dX6_init_30 : decode cX6_init 30 = .ok (.iconst 4, 1) := by decide +kernel
theorem dX6_init_31 : decode cX6_init 31 = .ok (.newarray .int, 2) := by decide +kernel
theorem dX6_init_33 : decode cX6_init 33 = .ok (.putfield 20, 3) := by decide +kernel
theorem dX6_init_36 : decode cX6_init 36 = .ok (.aload_n 0, 1) := by decide +kernel
theorem dX6_init_37 : decode cX6_init 37 = .ok (.iconst 4, 1) := by decide +kernel
theorem dX6_init_38 : decode cX6_init 38 = .ok (.newarray .long, 2) := by decide +kernel
theorem dX6_init_40 : decode cX6_init 40 = .ok (.putfield 23, 3) := by decide +kernel
theorem dX6_init_43 : decode cX6_init 43 = .ok (.aload_n 0, 1) := by decide +kernel
theorem dX6_init_44 : decode cX6_init 44 = .ok (.iconst 4, 1) := by decide +kernel
theorem dX6_init_45 : decode cX6_init 45 = .ok (.newarray .int, 2) := by decide +kernel
theorem dX6_init_47 : decode cX6_init 47 = .ok (.putfield 27, 3) := by decide +kernel
theorem dX6_init_50 : decode cX6_init 50 = .ok (.iconst 0, 1) := by decide +kernel
theorem dX6_init_51 : decode cX6_init 51 = .ok (.istore_n 1, 1) := by decide +kernel
theorem dX6_init_52 : decode cX6_init 52 = .ok (.iload_n 1, 1) := by decide +kernel
theorem dX6_init_53 : decode cX6_init 53 = .ok (.iconst 4, 1) := by decide +kernel
theorem dX6_init_54 : decode cX6_init 54 = .ok (.if_icmp .ge 31, 3) := by decide +kernel
theorem dX6_init_57 : decode cX6_init 57 = .ok (.aload_n 0, 1) := by decide +kernel
theorem dX6_init_58 : decode cX6_init 58 = .ok (.getfield 7, 3) := by decide +kernel
theorem dX6_init_61 : decode cX6_init 61 = .ok (.iconst 0, 1) := by decide +kernel
theorem dX6_init_62 : decode cX6_init 62 = .ok (.iconst 5, 1) := by decide +kernel
theorem dX6_init_63 : decode cX6_init 63 = .ok (.iload_n 1, 1) := by decide +kernel
theorem dX6_init_64 : decode cX6_init 64 = .ok (.imul, 1) := by decide +kernel
theorem dX6_init_65 : decode cX6_init 65 = .ok (.iadd, 1) := by decide +kernel
theorem dX6_init_66 : decode cX6_init 66 = .ok (.bipush 10, 2) := by decide +kernel
theorem dX6_init_68 : decode cX6_init 68 = .ok (.iastore, 1) := by decide +kernel
theorem dX6_init_69 : decode cX6_init 69 = .ok (.aload_n 0, 1) := by decide +kernel
theorem dX6_init_70 : decode cX6_init 70 = .ok (.getfield 7, 3) := by decide +kernel
theorem dX6_init_73 : decode cX6_init 73 = .ok (.bipush 20, 2) := by decide +kernel
theorem dX6_init_75 : decode cX6_init 75 = .ok (.iload_n 1, 1) := by decide +kernel
theorem dX6_init_76 : decode cX6_init 76 = .ok (.iadd, 1) := by decide +kernel
theorem dX6_init_77 : decode cX6_init 77 = .ok (.iconst 1, 1) := by decide +kernel
theorem dX6_init_78 : decode cX6_init 78 = .ok (.iastore, 1) := by decide +kernel
theorem dX6_init_79 : decode cX6_init 79 = .ok (.iinc 1 1, 3) := by decide +kernel
theorem dX6_init_82 : decode cX6_init 82 = .ok (.goto (-30), 3) := by decide +kernel
theorem dX6_init_85 : decode cX6_init 85 = .ok (.aload_n 0, 1) := by decide +kernel
theorem dX6_init_86 : decode cX6_init 86 = .ok (.getfield 7, 3) := by decide +kernel
theorem dX6_init_89 : decode cX6_init 89 = .ok (.bipush 28, 2) := by decide +kernel
theorem dX6_init_91 : decode cX6_init 91 = .ok (.bipush 10, 2) := by decide +kernel
theorem dX6_init_93 : decode cX6_init 93 = .ok (.iastore, 1) := by decide +kernel
theorem dX6_init_94 : decode cX6_init 94 = .ok (.aload_n 0, 1) := by decide +kernel
theorem dX6_init_95 : decode cX6_init 95 = .ok (.getfield 7, 3) := by decide +kernel
theorem dX6_init_98 : decode cX6_init 98 = .ok (.bipush 35, 2) := by decide +kernel
theorem dX6_init_100 : decode cX6_init 100 = .ok (.bipush (-7), 2) := by decide +kernel
theorem dX6_init_102 : decode cX6_init 102 = .ok (.iastore, 1) := by decide +kernel
theorem dX6_init_103 : decode cX6_init 103 = .ok (.return_, 1) := by decide +kernel
theorem dX6_in_0 : decode cX6_in 0 = .ok (.iload_n 0, 1) := by decide +kernel
theorem dX6_in_1 : decode cX6_in 1 = .ok (.iload_n 1, 1) := by decide +kernel
theorem dX6_in_2 : decode cX6_in 2 = .ok (.if_icmp .lt 12, 3) := by decide +kernel
theorem dX6_in_5 : decode cX6_in 5 = .ok (.iload_n 0, 1) := by decide +kernel
theorem dX6_in_6 : decode cX6_in 6 = .ok (.iload_n 2, 1) := by decide +kernel
theorem dX6_in_7 : decode cX6_in 7 = .ok (.if_icmp .gt 7, 3) := by decide +kernel
theorem dX6_in_10 : decode cX6_in 10 = .ok (.iconst 1, 1) := by decide +kernel
theorem dX6_in_11 : decode cX6_in 11 = .ok (.goto 4, 3) := by decide +kernel
theorem dX6_in_14 : decode cX6_in 14 = .ok (.iconst 0, 1) := by decide +kernel
theorem dX6_in_15 : decode cX6_in 15 = .ok (.ireturn, 1) := by decide +kernel
theorem dX6_isSize_0 : decode cX6_isSize 0 = .ok (.iload_n 0, 1) := by decide +kernel
theorem dX6_isSize_1 : decode cX6_isSize 1 = .ok (.iconst 0, 1) := by decide +kernel
theorem dX6_isSize_2 : decode cX6_isSize 2 = .ok (.iconst 3, 1) := by decide +kernel
theorem dX6_isSize_3 : decode cX6_isSize 3 = .ok (.invokestatic 30, 3) := by decide +kernel
theorem dX6_isSize_6 : decode cX6_isSize 6 = .ok (.ireturn, 1) := by decide +kernel
theorem dX6_shareOf_0 : decode cX6_shareOf 0 = .ok (.aload_n 0, 1) := by decide +kernel
theorem dX6_shareOf_1 : decode cX6_shareOf 1 = .ok (.getfield 7, 3) := by decide +kernel
theorem dX6_shareOf_4 : decode cX6_shareOf 4 = .ok (.iconst 0, 1) := by decide +kernel
theorem dX6_shareOf_5 : decode cX6_shareOf 5 = .ok (.iconst 4, 1) := by decide +kernel
theorem dX6_shareOf_6 : decode cX6_shareOf 6 = .ok (.iload_n 1, 1) := by decide +kernel
theorem dX6_shareOf_7 : decode cX6_shareOf 7 = .ok (.imul, 1) := by decide +kernel
theorem dX6_shareOf_8 : decode cX6_shareOf 8 = .ok (.iadd, 1) := by decide +kernel
theorem dX6_shareOf_9 : decode cX6_shareOf 9 = .ok (.iload_n 2, 1) := by decide +kernel
theorem dX6_shareOf_10 : decode cX6_shareOf 10 = .ok (.iadd, 1) := by decide +kernel
theorem dX6_shareOf_11 : decode cX6_shareOf 11 = .ok (.iaload, 1) := by decide +kernel
theorem dX6_shareOf_12 : decode cX6_shareOf 12 = .ok (.ireturn, 1) := by decide +kernel
theorem dX6_setBreakage_0 : decode cX6_setBreakage 0 = .ok (.iload_n 1, 1) := by decide +kernel
theorem dX6_setBreakage_1 : decode cX6_setBreakage 1 = .ok (.invokestatic 34, 3) := by decide +kernel
theorem dX6_setBreakage_4 : decode cX6_setBreakage 4 = .ok (.ifCond .ne 5, 3) := by decide +kernel
theorem dX6_setBreakage_7 : decode cX6_setBreakage 7 = .ok (.iconst (-1), 1) := by decide +kernel
theorem dX6_setBreakage_8 : decode cX6_setBreakage 8 = .ok (.ireturn, 1) := by decide +kernel
theorem dX6_setBreakage_9 : decode cX6_setBreakage 9 = .ok (.iload_n 2, 1) := by decide +kernel
theorem dX6_setBreakage_10 : decode cX6_setBreakage 10 = .ok (.iconst 0, 1) := by decide +kernel
theorem dX6_setBreakage_11 : decode cX6_setBreakage 11 = .ok (.bipush 10, 2) := by decide +kernel
theorem dX6_setBreakage_13 : decode cX6_setBreakage 13 = .ok (.invokestatic 30, 3) := by decide +kernel
theorem dX6_setBreakage_16 : decode cX6_setBreakage 16 = .ok (.ifCond .eq 39, 3) := by decide +kernel
theorem dX6_setBreakage_19 : decode cX6_setBreakage 19 = .ok (.iload_n 3, 1) := by decide +kernel
theorem dX6_setBreakage_20 : decode cX6_setBreakage 20 = .ok (.iconst 0, 1) := by decide +kernel
theorem dX6_setBreakage_21 : decode cX6_setBreakage 21 = .ok (.bipush 10, 2) := by decide +kernel
theorem dX6_setBreakage_23 : decode cX6_setBreakage 23 = .ok (.invokestatic 30, 3) := by decide +kernel
theorem dX6_setBreakage_26 : decode cX6_setBreakage 26 = .ok (.ifCond .eq 29, 3) := by decide +kernel
theorem dX6_setBreakage_29 : decode cX6_setBreakage 29 = .ok (.iload 4, 2) := by decide +kernel
theorem dX6_setBreakage_31 : decode cX6_setBreakage 31 = .ok (.iconst 0, 1) := by decide +kernel
theorem dX6_setBreakage_32 : decode cX6_setBreakage 32 = .ok (.bipush 10, 2) := by decide +kernel
theorem dX6_setBreakage_34 : decode cX6_setBreakage 34 = .ok (.invokestatic 30, 3) := by decide +kernel
theorem dX6_setBreakage_37 : decode cX6_setBreakage 37 = .ok (.ifCond .eq 18, 3) := by decide +kernel
theorem dX6_setBreakage_40 : decode cX6_setBreakage 40 = .ok (.iload_n 2, 1) := by decide +kernel
theorem dX6_setBreakage_41 : decode cX6_setBreakage 41 = .ok (.iload_n 3, 1) := by decide +kernel
theorem dX6_setBreakage_42 : decode cX6_setBreakage 42 = .ok (.iadd, 1) := by decide +kernel
theorem dX6_setBreakage_43 : decode cX6_setBreakage 43 = .ok (.iload 4, 2) := by decide +kernel
theorem dX6_setBreakage_45 : decode cX6_setBreakage 45 = .ok (.iadd, 1) := by decide +kernel
theorem dX6_setBreakage_46 : decode cX6_setBreakage 46 = .ok (.bipush 10, 2) := by decide +kernel
theorem dX6_setBreakage_48 : decode cX6_setBreakage 48 = .ok (.if_icmp .gt 7, 3) := by decide +kernel
theorem dX6_setBreakage_51 : decode cX6_setBreakage 51 = .ok (.iconst 1, 1) := by decide +kernel
theorem dX6_setBreakage_52 : decode cX6_setBreakage 52 = .ok (.goto 4, 3) := by decide +kernel
theorem dX6_setBreakage_55 : decode cX6_setBreakage 55 = .ok (.iconst 0, 1) := by decide +kernel
theorem dX6_setBreakage_56 : decode cX6_setBreakage 56 = .ok (.istore 5, 2) := by decide +kernel
theorem dX6_setBreakage_58 : decode cX6_setBreakage 58 = .ok (.iload 5, 2) := by decide +kernel
theorem dX6_setBreakage_60 : decode cX6_setBreakage 60 = .ok (.ifCond .eq 35, 3) := by decide +kernel
theorem dX6_setBreakage_63 : decode cX6_setBreakage 63 = .ok (.iload_n 1, 1) := by decide +kernel
theorem dX6_setBreakage_64 : decode cX6_setBreakage 64 = .ok (.iconst 3, 1) := by decide +kernel
theorem dX6_setBreakage_65 : decode cX6_setBreakage 65 = .ok (.if_icmp .lt 7, 3) := by decide +kernel
theorem dX6_setBreakage_68 : decode cX6_setBreakage 68 = .ok (.iload_n 2, 1) := by decide +kernel
theorem dX6_setBreakage_69 : decode cX6_setBreakage 69 = .ok (.ifCond .ne 26, 3) := by decide +kernel
theorem dX6_setBreakage_72 : decode cX6_setBreakage 72 = .ok (.iload_n 1, 1) := by decide +kernel
theorem dX6_setBreakage_73 : decode cX6_setBreakage 73 = .ok (.iconst 2, 1) := by decide +kernel
theorem dX6_setBreakage_74 : decode cX6_setBreakage 74 = .ok (.if_icmp .lt 7, 3) := by decide +kernel
theorem dX6_setBreakage_77 : decode cX6_setBreakage 77 = .ok (.iload_n 3, 1) := by decide +kernel
theorem dX6_setBreakage_78 : decode cX6_setBreakage 78 = .ok (.ifCond .ne 17, 3) := by decide +kernel
theorem dX6_setBreakage_81 : decode cX6_setBreakage 81 = .ok (.iload_n 1, 1) := by decide +kernel
theorem dX6_setBreakage_82 : decode cX6_setBreakage 82 = .ok (.iconst 1, 1) := by decide +kernel
theorem dX6_setBreakage_83 : decode cX6_setBreakage 83 = .ok (.if_icmp .lt 8, 3) := by decide +kernel
theorem dX6_setBreakage_86 : decode cX6_setBreakage 86 = .ok (.iload 4, 2) := by decide +kernel
theorem dX6_setBreakage_88 : decode cX6_setBreakage 88 = .ok (.ifCond .ne 7, 3) := by decide +kernel
theorem dX6_setBreakage_91 : decode cX6_setBreakage 91 = .ok (.iconst 1, 1) := by decide +kernel
theorem dX6_setBreakage_92 : decode cX6_setBreakage 92 = .ok (.goto 4, 3) := by decide +kernel
theorem dX6_setBreakage_95 : decode cX6_setBreakage 95 = .ok (.iconst 0, 1) := by decide +kernel
theorem dX6_setBreakage_96 : decode cX6_setBreakage 96 = .ok (.istore 5, 2) := by decide +kernel
theorem dX6_setBreakage_98 : decode cX6_setBreakage 98 = .ok (.iload 5, 2) := by decide +kernel
theorem dX6_setBreakage_100 : decode cX6_setBreakage 100 = .ok (.ifCond .ne 6, 3) := by decide +kernel
theorem dX6_setBreakage_103 : decode cX6_setBreakage 103 = .ok (.bipush (-3), 2) := by decide +kernel
theorem dX6_setBreakage_105 : decode cX6_setBreakage 105 = .ok (.ireturn, 1) := by decide +kernel
theorem dX6_setBreakage_106 : decode cX6_setBreakage 106 = .ok (.iconst 0, 1) := by decide +kernel
theorem dX6_setBreakage_107 : decode cX6_setBreakage 107 = .ok (.iconst 5, 1) := by decide +kernel
theorem dX6_setBreakage_108 : decode cX6_setBreakage 108 = .ok (.iload_n 1, 1) := by decide +kernel
theorem dX6_setBreakage_109 : decode cX6_setBreakage 109 = .ok (.imul, 1) := by decide +kernel
theorem dX6_setBreakage_110 : decode cX6_setBreakage 110 = .ok (.iadd, 1) := by decide +kernel
theorem dX6_setBreakage_111 : decode cX6_setBreakage 111 = .ok (.istore 6, 2) := by decide +kernel
theorem dX6_setBreakage_113 : decode cX6_setBreakage 113 = .ok (.aload_n 0, 1) := by decide +kernel
theorem dX6_setBreakage_114 : decode cX6_setBreakage 114 = .ok (.getfield 7, 3) := by decide +kernel
theorem dX6_setBreakage_117 : decode cX6_setBreakage 117 = .ok (.iload 6, 2) := by decide +kernel
theorem dX6_setBreakage_119 : decode cX6_setBreakage 119 = .ok (.bipush 10, 2) := by decide +kernel
theorem dX6_setBreakage_121 : decode cX6_setBreakage 121 = .ok (.iload_n 2, 1) := by decide +kernel
theorem dX6_setBreakage_122 : decode cX6_setBreakage 122 = .ok (.isub, 1) := by decide +kernel
theorem dX6_setBreakage_123 : decode cX6_setBreakage 123 = .ok (.iload_n 3, 1) := by decide +kernel
theorem dX6_setBreakage_124 : decode cX6_setBreakage 124 = .ok (.isub, 1) := by decide +kernel
theorem dX6_setBreakage_125 : decode cX6_setBreakage 125 = .ok (.iload 4, 2) := by decide +kernel
theorem dX6_setBreakage_127 : decode cX6_setBreakage 127 = .ok (.isub, 1) := by decide +kernel
theorem dX6_setBreakage_128 : decode cX6_setBreakage 128 = .ok (.iastore, 1) := by decide +kernel
theorem dX6_setBreakage_129 : decode cX6_setBreakage 129 = .ok (.iload_n 1, 1) := by decide +kernel
theorem dX6_setBreakage_130 : decode cX6_setBreakage 130 = .ok (.iconst 3, 1) := by decide +kernel
theorem dX6_setBreakage_131 : decode cX6_setBreakage 131 = .ok (.if_icmp .ge 13, 3) := by decide +kernel
theorem dX6_setBreakage_134 : decode cX6_setBreakage 134 = .ok (.aload_n 0, 1) := by decide +kernel
theorem dX6_setBreakage_135 : decode cX6_setBreakage 135 = .ok (.getfield 7, 3) := by decide +kernel
theorem dX6_setBreakage_138 : decode cX6_setBreakage 138 = .ok (.iload 6, 2) := by decide +kernel
theorem dX6_setBreakage_140 : decode cX6_setBreakage 140 = .ok (.iconst 1, 1) := by decide +kernel
theorem dX6_setBreakage_141 : decode cX6_setBreakage 141 = .ok (.iadd, 1) := by decide +kernel
theorem dX6_setBreakage_142 : decode cX6_setBreakage 142 = .ok (.iload_n 2, 1) := by decide +kernel
theorem dX6_setBreakage_143 : decode cX6_setBreakage 143 = .ok (.iastore, 1) := by decide +kernel
theorem dX6_setBreakage_144 : decode cX6_setBreakage 144 = .ok (.iload_n 1, 1) := by decide +kernel
theorem dX6_setBreakage_145 : decode cX6_setBreakage 145 = .ok (.iconst 2, 1) := by decide +kernel
theorem dX6_setBreakage_146 : decode cX6_setBreakage 146 = .ok (.if_icmp .ge 13, 3) := by decide +kernel
theorem dX6_setBreakage_149 : decode cX6_setBreakage 149 = .ok (.aload_n 0, 1) := by decide +kernel
theorem dX6_setBreakage_150 : decode cX6_setBreakage 150 = .ok (.getfield 7, 3) := by decide +kernel
theorem dX6_setBreakage_153 : decode cX6_setBreakage 153 = .ok (.iload 6, 2) := by decide +kernel
theorem dX6_setBreakage_155 : decode cX6_setBreakage 155 = .ok (.iconst 2, 1) := by decide +kernel
theorem dX6_setBreakage_156 : decode cX6_setBreakage 156 = .ok (.iadd, 1) := by decide +kernel
theorem dX6_setBreakage_157 : decode cX6_setBreakage 157 = .ok (.iload_n 3, 1) := by decide +kernel
theorem dX6_setBreakage_158 : decode cX6_setBreakage 158 = .ok (.iastore, 1) := by decide +kernel
theorem dX6_setBreakage_159 : decode cX6_setBreakage 159 = .ok (.iload_n 1, 1) := by decide +kernel
theorem dX6_setBreakage_160 : decode cX6_setBreakage 160 = .ok (.iconst 1, 1) := by decide +kernel
theorem dX6_setBreakage_161 : decode cX6_setBreakage 161 = .ok (.if_icmp .ge 14, 3) := by decide +kernel
theorem dX6_setBreakage_164 : decode cX6_setBreakage 164 = .ok (.aload_n 0, 1) := by decide +kernel
theorem dX6_setBreakage_165 : decode cX6_setBreakage 165 = .ok (.getfield 7, 3) := by decide +kernel
theorem dX6_setBreakage_168 : decode cX6_setBreakage 168 = .ok (.iload 6, 2) := by decide +kernel
theorem dX6_setBreakage_170 : decode cX6_setBreakage 170 = .ok (.iconst 3, 1) := by decide +kernel
theorem dX6_setBreakage_171 : decode cX6_setBreakage 171 = .ok (.iadd, 1) := by decide +kernel
theorem dX6_setBreakage_172 : decode cX6_setBreakage 172 = .ok (.iload 4, 2) := by decide +kernel
theorem dX6_setBreakage_174 : decode cX6_setBreakage 174 = .ok (.iastore, 1) := by decide +kernel
theorem dX6_setBreakage_175 : decode cX6_setBreakage 175 = .ok (.aload_n 0, 1) := by decide +kernel
theorem dX6_setBreakage_176 : decode cX6_setBreakage 176 = .ok (.getfield 7, 3) := by decide +kernel
theorem dX6_setBreakage_179 : decode cX6_setBreakage 179 = .ok (.iload 6, 2) := by decide +kernel
theorem dX6_setBreakage_181 : decode cX6_setBreakage 181 = .ok (.iaload, 1) := by decide +kernel
theorem dX6_setBreakage_182 : decode cX6_setBreakage 182 = .ok (.ireturn, 1) := by decide +kernel
theorem dX6_share_0 : decode cX6_share 0 = .ok (.iload_n 1, 1) := by decide +kernel
theorem dX6_share_1 : decode cX6_share 1 = .ok (.invokestatic 34, 3) := by decide +kernel
theorem dX6_share_4 : decode cX6_share 4 = .ok (.ifCond .eq 19, 3) := by decide +kernel
theorem dX6_share_7 : decode cX6_share 7 = .ok (.iload_n 2, 1) := by decide +kernel
theorem dX6_share_8 : decode cX6_share 8 = .ok (.invokestatic 34, 3) := by decide +kernel
theorem dX6_share_11 : decode cX6_share 11 = .ok (.ifCond .eq 12, 3) := by decide +kernel
theorem dX6_share_14 : decode cX6_share 14 = .ok (.aload_n 0, 1) := by decide +kernel
theorem dX6_share_15 : decode cX6_share 15 = .ok (.iload_n 1, 1) := by decide +kernel
theorem dX6_share_16 : decode cX6_share 16 = .ok (.iload_n 2, 1) := by decide +kernel
theorem dX6_share_17 : decode cX6_share 17 = .ok (.invokevirtual 38, 3) := by decide +kernel
theorem dX6_share_20 : decode cX6_share 20 = .ok (.goto 4, 3) := by decide +kernel
theorem dX6_share_23 : decode cX6_share 23 = .ok (.iconst (-1), 1) := by decide +kernel
theorem dX6_share_24 : decode cX6_share 24 = .ok (.ireturn, 1) := by decide +kernel
theorem dX6_set_0 : decode cX6_set 0 = .ok (.aload_n 0, 1) := by decide +kernel
theorem dX6_set_1 : decode cX6_set 1 = .ok (.getfield 7, 3) := by decide +kernel
theorem dX6_set_4 : decode cX6_set 4 = .ok (.iload_n 1, 1) := by decide +kernel
theorem dX6_set_5 : decode cX6_set 5 = .ok (.iaload, 1) := by decide +kernel
theorem dX6_set_6 : decode cX6_set 6 = .ok (.istore_n 3, 1) := by decide +kernel
theorem dX6_set_7 : decode cX6_set 7 = .ok (.aload_n 0, 1) := by decide +kernel
theorem dX6_set_8 : decode cX6_set 8 = .ok (.getfield 7, 3) := by decide +kernel
theorem dX6_set_11 : decode cX6_set 11 = .ok (.iload_n 1, 1) := by decide +kernel
theorem dX6_set_12 : decode cX6_set 12 = .ok (.iload_n 2, 1) := by decide +kernel
theorem dX6_set_13 : decode cX6_set 13 = .ok (.iastore, 1) := by decide +kernel
theorem dX6_set_14 : decode cX6_set 14 = .ok (.iload_n 3, 1) := by decide +kernel
theorem dX6_set_15 : decode cX6_set 15 = .ok (.ireturn, 1) := by decide +kernel
theorem dX6_setReturn_0 : decode cX6_setReturn 0 = .ok (.iload_n 1, 1) := by decide +kernel
theorem dX6_setReturn_1 : decode cX6_setReturn 1 = .ok (.invokestatic 34, 3) := by decide +kernel
theorem dX6_setReturn_4 : decode cX6_setReturn 4 = .ok (.ifCond .ne 5, 3) := by decide +kernel
theorem dX6_setReturn_7 : decode cX6_setReturn 7 = .ok (.iconst (-1), 1) := by decide +kernel
theorem dX6_setReturn_8 : decode cX6_setReturn 8 = .ok (.ireturn, 1) := by decide +kernel
theorem dX6_setReturn_9 : decode cX6_setReturn 9 = .ok (.iload_n 2, 1) := by decide +kernel
theorem dX6_setReturn_10 : decode cX6_setReturn 10 = .ok (.iconst 0, 1) := by decide +kernel
theorem dX6_setReturn_11 : decode cX6_setReturn 11 = .ok (.bipush 10, 2) := by decide +kernel
theorem dX6_setReturn_13 : decode cX6_setReturn 13 = .ok (.invokestatic 30, 3) := by decide +kernel
theorem dX6_setReturn_16 : decode cX6_setReturn 16 = .ok (.ifCond .eq 15, 3) := by decide +kernel
theorem dX6_setReturn_19 : decode cX6_setReturn 19 = .ok (.aload_n 0, 1) := by decide +kernel
theorem dX6_setReturn_20 : decode cX6_setReturn 20 = .ok (.bipush 16, 2) := by decide +kernel
theorem dX6_setReturn_22 : decode cX6_setReturn 22 = .ok (.iload_n 1, 1) := by decide +kernel
theorem dX6_setReturn_23 : decode cX6_setReturn 23 = .ok (.iadd, 1) := by decide +kernel
theorem dX6_setReturn_24 : decode cX6_setReturn 24 = .ok (.iload_n 2, 1) := by decide +kernel
theorem dX6_setReturn_25 : decode cX6_setReturn 25 = .ok (.invokevirtual 42, 3) := by decide +kernel
theorem dX6_setReturn_28 : decode cX6_setReturn 28 = .ok (.goto 5, 3) := by decide +kernel
theorem dX6_setReturn_31 : decode cX6_setReturn 31 = .ok (.bipush (-3), 2) := by decide +kernel
theorem dX6_setReturn_33 : decode cX6_setReturn 33 = .ok (.ireturn, 1) := by decide +kernel
theorem dX6_setWork_0 : decode cX6_setWork 0 = .ok (.iload_n 1, 1) := by decide +kernel
theorem dX6_setWork_1 : decode cX6_setWork 1 = .ok (.invokestatic 34, 3) := by decide +kernel
theorem dX6_setWork_4 : decode cX6_setWork 4 = .ok (.ifCond .ne 5, 3) := by decide +kernel
theorem dX6_setWork_7 : decode cX6_setWork 7 = .ok (.iconst (-1), 1) := by decide +kernel
theorem dX6_setWork_8 : decode cX6_setWork 8 = .ok (.ireturn, 1) := by decide +kernel
theorem dX6_setWork_9 : decode cX6_setWork 9 = .ok (.iload_n 2, 1) := by decide +kernel
theorem dX6_setWork_10 : decode cX6_setWork 10 = .ok (.iconst 0, 1) := by decide +kernel
theorem dX6_setWork_11 : decode cX6_setWork 11 = .ok (.bipush 100, 2) := by decide +kernel
theorem dX6_setWork_13 : decode cX6_setWork 13 = .ok (.invokestatic 30, 3) := by decide +kernel
theorem dX6_setWork_16 : decode cX6_setWork 16 = .ok (.ifCond .eq 15, 3) := by decide +kernel
theorem dX6_setWork_19 : decode cX6_setWork 19 = .ok (.aload_n 0, 1) := by decide +kernel
theorem dX6_setWork_20 : decode cX6_setWork 20 = .ok (.bipush 20, 2) := by decide +kernel
theorem dX6_setWork_22 : decode cX6_setWork 22 = .ok (.iload_n 1, 1) := by decide +kernel
theorem dX6_setWork_23 : decode cX6_setWork 23 = .ok (.iadd, 1) := by decide +kernel
theorem dX6_setWork_24 : decode cX6_setWork 24 = .ok (.iload_n 2, 1) := by decide +kernel
theorem dX6_setWork_25 : decode cX6_setWork 25 = .ok (.invokevirtual 42, 3) := by decide +kernel
theorem dX6_setWork_28 : decode cX6_setWork 28 = .ok (.goto 5, 3) := by decide +kernel
theorem dX6_setWork_31 : decode cX6_setWork 31 = .ok (.bipush (-3), 2) := by decide +kernel
theorem dX6_setWork_33 : decode cX6_setWork 33 = .ok (.ireturn, 1) := by decide +kernel
theorem dX6_setFeed_0 : decode cX6_setFeed 0 = .ok (.iload_n 1, 1) := by decide +kernel
theorem dX6_setFeed_1 : decode cX6_setFeed 1 = .ok (.invokestatic 34, 3) := by decide +kernel
theorem dX6_setFeed_4 : decode cX6_setFeed 4 = .ok (.ifCond .ne 5, 3) := by decide +kernel
theorem dX6_setFeed_7 : decode cX6_setFeed 7 = .ok (.iconst (-1), 1) := by decide +kernel
theorem dX6_setFeed_8 : decode cX6_setFeed 8 = .ok (.ireturn, 1) := by decide +kernel
theorem dX6_setFeed_9 : decode cX6_setFeed 9 = .ok (.iload_n 2, 1) := by decide +kernel
theorem dX6_setFeed_10 : decode cX6_setFeed 10 = .ok (.iconst 0, 1) := by decide +kernel
theorem dX6_setFeed_11 : decode cX6_setFeed 11 = .ok (.sipush 1000, 3) := by decide +kernel
theorem dX6_setFeed_14 : decode cX6_setFeed 14 = .ok (.invokestatic 30, 3) := by decide +kernel
theorem dX6_setFeed_17 : decode cX6_setFeed 17 = .ok (.ifCond .eq 15, 3) := by decide +kernel
theorem dX6_setFeed_20 : decode cX6_setFeed 20 = .ok (.aload_n 0, 1) := by decide +kernel
theorem dX6_setFeed_21 : decode cX6_setFeed 21 = .ok (.bipush 24, 2) := by decide +kernel
theorem dX6_setFeed_23 : decode cX6_setFeed 23 = .ok (.iload_n 1, 1) := by decide +kernel
theorem dX6_setFeed_24 : decode cX6_setFeed 24 = .ok (.iadd, 1) := by decide +kernel
theorem dX6_setFeed_25 : decode cX6_setFeed 25 = .ok (.iload_n 2, 1) := by decide +kernel
theorem dX6_setFeed_26 : decode cX6_setFeed 26 = .ok (.invokevirtual 42, 3) := by decide +kernel
theorem dX6_setFeed_29 : decode cX6_setFeed 29 = .ok (.goto 5, 3) := by decide +kernel
theorem dX6_setFeed_32 : decode cX6_setFeed 32 = .ok (.bipush (-3), 2) := by decide +kernel
theorem dX6_setFeed_34 : decode cX6_setFeed 34 = .ok (.ireturn, 1) := by decide +kernel
theorem dX6_asSet_0 : decode cX6_asSet 0 = .ok (.iconst 0, 1) := by decide +kernel
theorem dX6_asSet_1 : decode cX6_asSet 1 = .ok (.istore_n 1, 1) := by decide +kernel
theorem dX6_asSet_2 : decode cX6_asSet 2 = .ok (.iload_n 1, 1) := by decide +kernel
theorem dX6_asSet_3 : decode cX6_asSet 3 = .ok (.iconst 4, 1) := by decide +kernel
theorem dX6_asSet_4 : decode cX6_asSet 4 = .ok (.if_icmp .ge 24, 3) := by decide +kernel
theorem dX6_asSet_7 : decode cX6_asSet 7 = .ok (.aload_n 0, 1) := by decide +kernel
theorem dX6_asSet_8 : decode cX6_asSet 8 = .ok (.getfield 20, 3) := by decide +kernel
theorem dX6_asSet_11 : decode cX6_asSet 11 = .ok (.iload_n 1, 1) := by decide +kernel
theorem dX6_asSet_12 : decode cX6_asSet 12 = .ok (.aload_n 0, 1) := by decide +kernel
theorem dX6_asSet_13 : decode cX6_asSet 13 = .ok (.getfield 7, 3) := by decide +kernel
theorem dX6_asSet_16 : decode cX6_asSet 16 = .ok (.bipush 16, 2) := by decide +kernel
theorem dX6_asSet_18 : decode cX6_asSet 18 = .ok (.iload_n 1, 1) := by decide +kernel
theorem dX6_asSet_19 : decode cX6_asSet 19 = .ok (.iadd, 1) := by decide +kernel
theorem dX6_asSet_20 : decode cX6_asSet 20 = .ok (.iaload, 1) := by decide +kernel
theorem dX6_asSet_21 : decode cX6_asSet 21 = .ok (.iastore, 1) := by decide +kernel
theorem dX6_asSet_22 : decode cX6_asSet 22 = .ok (.iinc 1 1, 3) := by decide +kernel
theorem dX6_asSet_25 : decode cX6_asSet 25 = .ok (.goto (-23), 3) := by decide +kernel
theorem dX6_asSet_28 : decode cX6_asSet 28 = .ok (.return_, 1) := by decide +kernel
theorem dX6_asCut_0 : decode cX6_asCut 0 = .ok (.iconst 0, 1) := by decide +kernel
theorem dX6_asCut_1 : decode cX6_asCut 1 = .ok (.istore_n 2, 1) := by decide +kernel
theorem dX6_asCut_2 : decode cX6_asCut 2 = .ok (.iload_n 2, 1) := by decide +kernel
theorem dX6_asCut_3 : decode cX6_asCut 3 = .ok (.iconst 4, 1) := by decide +kernel
theorem dX6_asCut_4 : decode cX6_asCut 4 = .ok (.if_icmp .ge 26, 3) := by decide +kernel
theorem dX6_asCut_7 : decode cX6_asCut 7 = .ok (.aload_n 0, 1) := by decide +kernel
theorem dX6_asCut_8 : decode cX6_asCut 8 = .ok (.getfield 20, 3) := by decide +kernel
theorem dX6_asCut_11 : decode cX6_asCut 11 = .ok (.iload_n 2, 1) := by decide +kernel
theorem dX6_asCut_12 : decode cX6_asCut 12 = .ok (.iload_n 2, 1) := by decide +kernel
theorem dX6_asCut_13 : decode cX6_asCut 13 = .ok (.iload_n 1, 1) := by decide +kernel
theorem dX6_asCut_14 : decode cX6_asCut 14 = .ok (.if_icmp .ge 8, 3) := by decide +kernel
theorem dX6_asCut_17 : decode cX6_asCut 17 = .ok (.bipush 10, 2) := by decide +kernel
theorem dX6_asCut_19 : decode cX6_asCut 19 = .ok (.goto 4, 3) := by decide +kernel
theorem dX6_asCut_22 : decode cX6_asCut 22 = .ok (.iconst 0, 1) := by decide +kernel
theorem dX6_asCut_23 : decode cX6_asCut 23 = .ok (.iastore, 1) := by decide +kernel
theorem dX6_asCut_24 : decode cX6_asCut 24 = .ok (.iinc 2 1, 3) := by decide +kernel
theorem dX6_asCut_27 : decode cX6_asCut 27 = .ok (.goto (-25), 3) := by decide +kernel
theorem dX6_asCut_30 : decode cX6_asCut 30 = .ok (.return_, 1) := by decide +kernel
theorem dX6_layLoads_0 : decode cX6_layLoads 0 = .ok (.aload_n 0, 1) := by decide +kernel
theorem dX6_layLoads_1 : decode cX6_layLoads 1 = .ok (.lconst 1, 1) := by decide +kernel
theorem dX6_layLoads_2 : decode cX6_layLoads 2 = .ok (.putfield 45, 3) := by decide +kernel
theorem dX6_layLoads_5 : decode cX6_layLoads 5 = .ok (.iconst 0, 1) := by decide +kernel
theorem dX6_layLoads_6 : decode cX6_layLoads 6 = .ok (.istore_n 1, 1) := by decide +kernel
theorem dX6_layLoads_7 : decode cX6_layLoads 7 = .ok (.iload_n 1, 1) := by decide +kernel
theorem dX6_layLoads_8 : decode cX6_layLoads 8 = .ok (.iconst 4, 1) := by decide +kernel
theorem dX6_layLoads_9 : decode cX6_layLoads 9 = .ok (.if_icmp .ge 177, 3) := by decide +kernel
theorem dX6_layLoads_12 : decode cX6_layLoads 12 = .ok (.lconst 0, 1) := by decide +kernel
theorem dX6_layLoads_13 : decode cX6_layLoads 13 = .ok (.lstore_n 2, 1) := by decide +kernel
theorem dX6_layLoads_14 : decode cX6_layLoads 14 = .ok (.iconst 0, 1) := by decide +kernel
theorem dX6_layLoads_15 : decode cX6_layLoads 15 = .ok (.istore 4, 2) := by decide +kernel
theorem dX6_layLoads_17 : decode cX6_layLoads 17 = .ok (.iload 4, 2) := by decide +kernel
theorem dX6_layLoads_19 : decode cX6_layLoads 19 = .ok (.iload_n 1, 1) := by decide +kernel
theorem dX6_layLoads_20 : decode cX6_layLoads 20 = .ok (.if_icmp .ge 28, 3) := by decide +kernel
theorem dX6_layLoads_23 : decode cX6_layLoads 23 = .ok (.lload_n 2, 1) := by decide +kernel
theorem dX6_layLoads_24 : decode cX6_layLoads 24 = .ok (.aload_n 0, 1) := by decide +kernel
theorem dX6_layLoads_25 : decode cX6_layLoads 25 = .ok (.getfield 23, 3) := by decide +kernel
theorem dX6_layLoads_28 : decode cX6_layLoads 28 = .ok (.iload 4, 2) := by decide +kernel
theorem dX6_layLoads_30 : decode cX6_layLoads 30 = .ok (.laload, 1) := by decide +kernel
theorem dX6_layLoads_31 : decode cX6_layLoads 31 = .ok (.aload_n 0, 1) := by decide +kernel
theorem dX6_layLoads_32 : decode cX6_layLoads 32 = .ok (.iload 4, 2) := by decide +kernel
theorem dX6_layLoads_34 : decode cX6_layLoads 34 = .ok (.iload_n 1, 1) := by decide +kernel
theorem dX6_layLoads_35 : decode cX6_layLoads 35 = .ok (.invokevirtual 38, 3) := by decide +kernel
theorem dX6_layLoads_38 : decode cX6_layLoads 38 = .ok (.i2l, 1) := by decide +kernel
theorem dX6_layLoads_39 : decode cX6_layLoads 39 = .ok (.lmul, 1) := by decide +kernel
theorem dX6_layLoads_40 : decode cX6_layLoads 40 = .ok (.ladd, 1) := by decide +kernel
theorem dX6_layLoads_41 : decode cX6_layLoads 41 = .ok (.lstore_n 2, 1) := by decide +kernel
theorem dX6_layLoads_42 : decode cX6_layLoads 42 = .ok (.iinc 4 1, 3) := by decide +kernel
theorem dX6_layLoads_45 : decode cX6_layLoads 45 = .ok (.goto (-28), 3) := by decide +kernel
theorem dX6_layLoads_48 : decode cX6_layLoads 48 = .ok (.bipush 100, 2) := by decide +kernel
theorem dX6_layLoads_50 : decode cX6_layLoads 50 = .ok (.aload_n 0, 1) := by decide +kernel
theorem dX6_layLoads_51 : decode cX6_layLoads 51 = .ok (.iload_n 1, 1) := by decide +kernel
theorem dX6_layLoads_52 : decode cX6_layLoads 52 = .ok (.iload_n 1, 1) := by decide +kernel
theorem dX6_layLoads_53 : decode cX6_layLoads 53 = .ok (.invokevirtual 38, 3) := by decide +kernel
theorem dX6_layLoads_56 : decode cX6_layLoads 56 = .ok (.aload_n 0, 1) := by decide +kernel
theorem dX6_layLoads_57 : decode cX6_layLoads 57 = .ok (.getfield 20, 3) := by decide +kernel
theorem dX6_layLoads_60 : decode cX6_layLoads 60 = .ok (.iload_n 1, 1) := by decide +kernel
theorem dX6_layLoads_61 : decode cX6_layLoads 61 = .ok (.iaload, 1) := by decide +kernel
theorem dX6_layLoads_62 : decode cX6_layLoads 62 = .ok (.imul, 1) := by decide +kernel
theorem dX6_layLoads_63 : decode cX6_layLoads 63 = .ok (.isub, 1) := by decide +kernel
theorem dX6_layLoads_64 : decode cX6_layLoads 64 = .ok (.istore 4, 2) := by decide +kernel
theorem dX6_layLoads_66 : decode cX6_layLoads 66 = .ok (.ldc2_w 49, 3) := by decide +kernel
theorem dX6_layLoads_69 : decode cX6_layLoads 69 = .ok (.aload_n 0, 1) := by decide +kernel
theorem dX6_layLoads_70 : decode cX6_layLoads 70 = .ok (.getfield 7, 3) := by decide +kernel
theorem dX6_layLoads_73 : decode cX6_layLoads 73 = .ok (.bipush 24, 2) := by decide +kernel
theorem dX6_layLoads_75 : decode cX6_layLoads 75 = .ok (.iload_n 1, 1) := by decide +kernel
theorem dX6_layLoads_76 : decode cX6_layLoads 76 = .ok (.iadd, 1) := by decide +kernel
theorem dX6_layLoads_77 : decode cX6_layLoads 77 = .ok (.iaload, 1) := by decide +kernel
theorem dX6_layLoads_78 : decode cX6_layLoads 78 = .ok (.i2l, 1) := by decide +kernel
theorem dX6_layLoads_79 : decode cX6_layLoads 79 = .ok (.lmul, 1) := by decide +kernel
theorem dX6_layLoads_80 : decode cX6_layLoads 80 = .ok (.aload_n 0, 1) := by decide +kernel
theorem dX6_layLoads_81 : decode cX6_layLoads 81 = .ok (.getfield 45, 3) := by decide +kernel
theorem dX6_layLoads_84 : decode cX6_layLoads 84 = .ok (.lmul, 1) := by decide +kernel
theorem dX6_layLoads_85 : decode cX6_layLoads 85 = .ok (.aload_n 0, 1) := by decide +kernel
theorem dX6_layLoads_86 : decode cX6_layLoads 86 = .ok (.getfield 20, 3) := by decide +kernel
theorem dX6_layLoads_89 : decode cX6_layLoads 89 = .ok (.iload_n 1, 1) := by decide +kernel
theorem dX6_layLoads_90 : decode cX6_layLoads 90 = .ok (.iaload, 1) := by decide +kernel
theorem dX6_layLoads_91 : decode cX6_layLoads 91 = .ok (.i2l, 1) := by decide +kernel
theorem dX6_layLoads_92 : decode cX6_layLoads 92 = .ok (.lload_n 2, 1) := by decide +kernel
theorem dX6_layLoads_93 : decode cX6_layLoads 93 = .ok (.lmul, 1) := by decide +kernel
theorem dX6_layLoads_94 : decode cX6_layLoads 94 = .ok (.ladd, 1) := by decide +kernel
theorem dX6_layLoads_95 : decode cX6_layLoads 95 = .ok (.lstore 5, 2) := by decide +kernel
theorem dX6_layLoads_97 : decode cX6_layLoads 97 = .ok (.iload 4, 2) := by decide +kernel
theorem dX6_layLoads_99 : decode cX6_layLoads 99 = .ok (.ifCond .ne 33, 3) := by decide +kernel
theorem dX6_layLoads_102 : decode cX6_layLoads 102 = .ok (.aload_n 0, 1) := by decide +kernel
theorem dX6_layLoads_103 : decode cX6_layLoads 103 = .ok (.getfield 7, 3) := by decide +kernel
theorem dX6_layLoads_106 : decode cX6_layLoads 106 = .ok (.bipush 24, 2) := by decide +kernel
theorem dX6_layLoads_108 : decode cX6_layLoads 108 = .ok (.iload_n 1, 1) := by decide +kernel
theorem dX6_layLoads_109 : decode cX6_layLoads 109 = .ok (.iadd, 1) := by decide +kernel
theorem dX6_layLoads_110 : decode cX6_layLoads 110 = .ok (.iaload, 1) := by decide +kernel
theorem dX6_layLoads_111 : decode cX6_layLoads 111 = .ok (.ifCond .gt 9, 3) := by decide +kernel
theorem dX6_layLoads_114 : decode cX6_layLoads 114 = .ok (.lload_n 2, 1) := by decide +kernel
theorem dX6_layLoads_115 : decode cX6_layLoads 115 = .ok (.lconst 0, 1) := by decide +kernel
theorem dX6_layLoads_116 : decode cX6_layLoads 116 = .ok (.lcmp, 1) := by decide +kernel
theorem dX6_layLoads_117 : decode cX6_layLoads 117 = .ok (.ifCond .le 5, 3) := by decide +kernel
theorem dX6_layLoads_120 : decode cX6_layLoads 120 = .ok (.iconst 0, 1) := by decide +kernel
theorem dX6_layLoads_121 : decode cX6_layLoads 121 = .ok (.ireturn, 1) := by decide +kernel
theorem dX6_layLoads_122 : decode cX6_layLoads 122 = .ok (.aload_n 0, 1) := by decide +kernel
theorem dX6_layLoads_123 : decode cX6_layLoads 123 = .ok (.getfield 23, 3) := by decide +kernel
theorem dX6_layLoads_126 : decode cX6_layLoads 126 = .ok (.iload_n 1, 1) := by decide +kernel
theorem dX6_layLoads_127 : decode cX6_layLoads 127 = .ok (.lconst 0, 1) := by decide +kernel
theorem dX6_layLoads_128 : decode cX6_layLoads 128 = .ok (.lastore, 1) := by decide +kernel
theorem dX6_layLoads_129 : decode cX6_layLoads 129 = .ok (.goto 51, 3) := by decide +kernel
theorem dX6_layLoads_132 : decode cX6_layLoads 132 = .ok (.iconst 0, 1) := by decide +kernel
theorem dX6_layLoads_133 : decode cX6_layLoads 133 = .ok (.istore 7, 2) := by decide +kernel
theorem dX6_layLoads_135 : decode cX6_layLoads 135 = .ok (.iload 7, 2) := by decide +kernel
theorem dX6_layLoads_137 : decode cX6_layLoads 137 = .ok (.iload_n 1, 1) := by decide +kernel
theorem dX6_layLoads_138 : decode cX6_layLoads 138 = .ok (.if_icmp .ge 22, 3) := by decide +kernel
theorem dX6_layLoads_141 : decode cX6_layLoads 141 = .ok (.aload_n 0, 1) := by decide +kernel
theorem dX6_layLoads_142 : decode cX6_layLoads 142 = .ok (.getfield 23, 3) := by decide +kernel
theorem dX6_layLoads_145 : decode cX6_layLoads 145 = .ok (.iload 7, 2) := by decide +kernel
theorem dX6_layLoads_147 : decode cX6_layLoads 147 = .ok (.dup2, 1) := by decide +kernel
theorem dX6_layLoads_148 : decode cX6_layLoads 148 = .ok (.laload, 1) := by decide +kernel
theorem dX6_layLoads_149 : decode cX6_layLoads 149 = .ok (.iload 4, 2) := by decide +kernel
theorem dX6_layLoads_151 : decode cX6_layLoads 151 = .ok (.i2l, 1) := by decide +kernel
theorem dX6_layLoads_152 : decode cX6_layLoads 152 = .ok (.lmul, 1) := by decide +kernel
theorem dX6_layLoads_153 : decode cX6_layLoads 153 = .ok (.lastore, 1) := by decide +kernel
theorem dX6_layLoads_154 : decode cX6_layLoads 154 = .ok (.iinc 7 1, 3) := by decide +kernel
theorem dX6_layLoads_157 : decode cX6_layLoads 157 = .ok (.goto (-22), 3) := by decide +kernel
theorem dX6_layLoads_160 : decode cX6_layLoads 160 = .ok (.aload_n 0, 1) := by decide +kernel
theorem dX6_layLoads_161 : decode cX6_layLoads 161 = .ok (.getfield 23, 3) := by decide +kernel
theorem dX6_layLoads_164 : decode cX6_layLoads 164 = .ok (.iload_n 1, 1) := by decide +kernel
theorem dX6_layLoads_165 : decode cX6_layLoads 165 = .ok (.lload 5, 2) := by decide +kernel
theorem dX6_layLoads_167 : decode cX6_layLoads 167 = .ok (.lastore, 1) := by decide +kernel
theorem dX6_layLoads_168 : decode cX6_layLoads 168 = .ok (.aload_n 0, 1) := by decide +kernel
theorem dX6_layLoads_169 : decode cX6_layLoads 169 = .ok (.dup, 1) := by decide +kernel
theorem dX6_layLoads_170 : decode cX6_layLoads 170 = .ok (.getfield 45, 3) := by decide +kernel
theorem dX6_layLoads_173 : decode cX6_layLoads 173 = .ok (.iload 4, 2) := by decide +kernel
theorem dX6_layLoads_175 : decode cX6_layLoads 175 = .ok (.i2l, 1) := by decide +kernel
theorem dX6_layLoads_176 : decode cX6_layLoads 176 = .ok (.lmul, 1) := by decide +kernel
theorem dX6_layLoads_177 : decode cX6_layLoads 177 = .ok (.putfield 45, 3) := by decide +kernel
theorem dX6_layLoads_180 : decode cX6_layLoads 180 = .ok (.iinc 1 1, 3) := by decide +kernel
theorem dX6_layLoads_183 : decode cX6_layLoads 183 = .ok (.goto (-176), 3) := by decide +kernel
theorem dX6_layLoads_186 : decode cX6_layLoads 186 = .ok (.iconst 1, 1) := by decide +kernel
theorem dX6_layLoads_187 : decode cX6_layLoads 187 = .ok (.ireturn, 1) := by decide +kernel
theorem dX6_part_0 : decode cX6_part 0 = .ok (.lload_n 0, 1) := by decide +kernel
theorem dX6_part_1 : decode cX6_part 1 = .ok (.lconst 0, 1) := by decide +kernel
theorem dX6_part_2 : decode cX6_part 2 = .ok (.lcmp, 1) := by decide +kernel
theorem dX6_part_3 : decode cX6_part 3 = .ok (.ifCond .ge 8, 3) := by decide +kernel
theorem dX6_part_6 : decode cX6_part 6 = .ok (.lload_n 0, 1) := by decide +kernel
theorem dX6_part_7 : decode cX6_part 7 = .ok (.lneg, 1) := by decide +kernel
theorem dX6_part_8 : decode cX6_part 8 = .ok (.goto 4, 3) := by decide +kernel
theorem dX6_part_11 : decode cX6_part 11 = .ok (.lload_n 0, 1) := by decide +kernel
theorem dX6_part_12 : decode cX6_part 12 = .ok (.lstore 5, 2) := by decide +kernel
theorem dX6_part_14 : decode cX6_part 14 = .ok (.lload_n 2, 1) := by decide +kernel
theorem dX6_part_15 : decode cX6_part 15 = .ok (.lstore 7, 2) := by decide +kernel
theorem dX6_part_17 : decode cX6_part 17 = .ok (.lload 7, 2) := by decide +kernel
theorem dX6_part_19 : decode cX6_part 19 = .ok (.lconst 0, 1) := by decide +kernel
theorem dX6_part_20 : decode cX6_part 20 = .ok (.lcmp, 1) := by decide +kernel
theorem dX6_part_21 : decode cX6_part 21 = .ok (.ifCond .eq 21, 3) := by decide +kernel
theorem dX6_part_24 : decode cX6_part 24 = .ok (.lload 5, 2) := by decide +kernel
theorem dX6_part_26 : decode cX6_part 26 = .ok (.lload 7, 2) := by decide +kernel
theorem dX6_part_28 : decode cX6_part 28 = .ok (.lrem, 1) := by decide +kernel
theorem dX6_part_29 : decode cX6_part 29 = .ok (.lstore 9, 2) := by decide +kernel
theorem dX6_part_31 : decode cX6_part 31 = .ok (.lload 7, 2) := by decide +kernel
theorem dX6_part_33 : decode cX6_part 33 = .ok (.lstore 5, 2) := by decide +kernel
theorem dX6_part_35 : decode cX6_part 35 = .ok (.lload 9, 2) := by decide +kernel
theorem dX6_part_37 : decode cX6_part 37 = .ok (.lstore 7, 2) := by decide +kernel
theorem dX6_part_39 : decode cX6_part 39 = .ok (.goto (-22), 3) := by decide +kernel
theorem dX6_part_42 : decode cX6_part 42 = .ok (.iload 4, 2) := by decide +kernel
theorem dX6_part_44 : decode cX6_part 44 = .ok (.ifCond .ne 10, 3) := by decide +kernel
theorem dX6_part_47 : decode cX6_part 47 = .ok (.lload_n 0, 1) := by decide +kernel
theorem dX6_part_48 : decode cX6_part 48 = .ok (.lload 5, 2) := by decide +kernel
theorem dX6_part_50 : decode cX6_part 50 = .ok (.ldiv, 1) := by decide +kernel
theorem dX6_part_51 : decode cX6_part 51 = .ok (.goto 7, 3) := by decide +kernel
theorem dX6_part_54 : decode cX6_part 54 = .ok (.lload_n 2, 1) := by decide +kernel
theorem dX6_part_55 : decode cX6_part 55 = .ok (.lload 5, 2) := by decide +kernel
theorem dX6_part_57 : decode cX6_part 57 = .ok (.ldiv, 1) := by decide +kernel
theorem dX6_part_58 : decode cX6_part 58 = .ok (.lreturn, 1) := by decide +kernel
theorem dX6_isPart_0 : decode cX6_isPart 0 = .ok (.iload_n 0, 1) := by decide +kernel
theorem dX6_isPart_1 : decode cX6_isPart 1 = .ok (.iconst 0, 1) := by decide +kernel
theorem dX6_isPart_2 : decode cX6_isPart 2 = .ok (.iconst 1, 1) := by decide +kernel
theorem dX6_isPart_3 : decode cX6_isPart 3 = .ok (.invokestatic 30, 3) := by decide +kernel
theorem dX6_isPart_6 : decode cX6_isPart 6 = .ok (.ireturn, 1) := by decide +kernel
theorem dX6_wrongSteady_0 : decode cX6_wrongSteady 0 = .ok (.iload_n 1, 1) := by decide +kernel
theorem dX6_wrongSteady_1 : decode cX6_wrongSteady 1 = .ok (.invokestatic 34, 3) := by decide +kernel
theorem dX6_wrongSteady_4 : decode cX6_wrongSteady 4 = .ok (.ifCond .ne 5, 3) := by decide +kernel
theorem dX6_wrongSteady_7 : decode cX6_wrongSteady 7 = .ok (.iconst (-1), 1) := by decide +kernel
theorem dX6_wrongSteady_8 : decode cX6_wrongSteady 8 = .ok (.ireturn, 1) := by decide +kernel
theorem dX6_wrongSteady_9 : decode cX6_wrongSteady 9 = .ok (.iload_n 2, 1) := by decide +kernel
theorem dX6_wrongSteady_10 : decode cX6_wrongSteady 10 = .ok (.invokestatic 51, 3) := by decide +kernel
theorem dX6_wrongSteady_13 : decode cX6_wrongSteady 13 = .ok (.ifCond .ne 6, 3) := by decide +kernel
theorem dX6_wrongSteady_16 : decode cX6_wrongSteady 16 = .ok (.bipush (-3), 2) := by decide +kernel
theorem dX6_wrongSteady_18 : decode cX6_wrongSteady 18 = .ok (.ireturn, 1) := by decide +kernel
theorem dX6_wrongSteady_19 : decode cX6_wrongSteady 19 = .ok (.aload_n 0, 1) := by decide +kernel
theorem dX6_wrongSteady_20 : decode cX6_wrongSteady 20 = .ok (.invokevirtual 54, 3) := by decide +kernel
theorem dX6_wrongSteady_23 : decode cX6_wrongSteady 23 = .ok (.aload_n 0, 1) := by decide +kernel
theorem dX6_wrongSteady_24 : decode cX6_wrongSteady 24 = .ok (.invokevirtual 57, 3) := by decide +kernel
theorem dX6_wrongSteady_27 : decode cX6_wrongSteady 27 = .ok (.ifCond .eq 7, 3) := by decide +kernel
theorem dX6_wrongSteady_30 : decode cX6_wrongSteady 30 = .ok (.iconst 0, 1) := by decide +kernel
theorem dX6_wrongSteady_31 : decode cX6_wrongSteady 31 = .ok (.goto 5, 3) := by decide +kernel
theorem dX6_wrongSteady_34 : decode cX6_wrongSteady 34 = .ok (.bipush (-5), 2) := by decide +kernel
theorem dX6_wrongSteady_36 : decode cX6_wrongSteady 36 = .ok (.ireturn, 1) := by decide +kernel
theorem dX6_load_0 : decode cX6_load 0 = .ok (.aload_n 0, 1) := by decide +kernel
theorem dX6_load_1 : decode cX6_load 1 = .ok (.iload_n 1, 1) := by decide +kernel
theorem dX6_load_2 : decode cX6_load 2 = .ok (.iload_n 2, 1) := by decide +kernel
theorem dX6_load_3 : decode cX6_load 3 = .ok (.invokevirtual 61, 3) := by decide +kernel
theorem dX6_load_6 : decode cX6_load 6 = .ok (.istore_n 3, 1) := by decide +kernel
theorem dX6_load_7 : decode cX6_load 7 = .ok (.iload_n 3, 1) := by decide +kernel
theorem dX6_load_8 : decode cX6_load 8 = .ok (.ifCond .eq 8, 3) := by decide +kernel
theorem dX6_load_11 : decode cX6_load 11 = .ok (.iload_n 3, 1) := by decide +kernel
theorem dX6_load_12 : decode cX6_load 12 = .ok (.i2l, 1) := by decide +kernel
theorem dX6_load_13 : decode cX6_load 13 = .ok (.goto 17, 3) := by decide +kernel
theorem dX6_load_16 : decode cX6_load 16 = .ok (.aload_n 0, 1) := by decide +kernel
theorem dX6_load_17 : decode cX6_load 17 = .ok (.getfield 23, 3) := by decide +kernel
theorem dX6_load_20 : decode cX6_load 20 = .ok (.iload_n 1, 1) := by decide +kernel
theorem dX6_load_21 : decode cX6_load 21 = .ok (.laload, 1) := by decide +kernel
theorem dX6_load_22 : decode cX6_load 22 = .ok (.aload_n 0, 1) := by decide +kernel
theorem dX6_load_23 : decode cX6_load 23 = .ok (.getfield 45, 3) := by decide +kernel
theorem dX6_load_26 : decode cX6_load 26 = .ok (.iload_n 2, 1) := by decide +kernel
theorem dX6_load_27 : decode cX6_load 27 = .ok (.invokestatic 64, 3) := by decide +kernel
theorem dX6_load_30 : decode cX6_load 30 = .ok (.lreturn, 1) := by decide +kernel
theorem dX6_product_0 : decode cX6_product 0 = .ok (.aload_n 0, 1) := by decide +kernel
theorem dX6_product_1 : decode cX6_product 1 = .ok (.iload_n 1, 1) := by decide +kernel
theorem dX6_product_2 : decode cX6_product 2 = .ok (.iload_n 2, 1) := by decide +kernel
theorem dX6_product_3 : decode cX6_product 3 = .ok (.invokevirtual 61, 3) := by decide +kernel
theorem dX6_product_6 : decode cX6_product 6 = .ok (.istore_n 3, 1) := by decide +kernel
theorem dX6_product_7 : decode cX6_product 7 = .ok (.iload_n 3, 1) := by decide +kernel
theorem dX6_product_8 : decode cX6_product 8 = .ok (.ifCond .eq 6, 3) := by decide +kernel
theorem dX6_product_11 : decode cX6_product 11 = .ok (.iload_n 3, 1) := by decide +kernel
theorem dX6_product_12 : decode cX6_product 12 = .ok (.i2l, 1) := by decide +kernel
theorem dX6_product_13 : decode cX6_product 13 = .ok (.lreturn, 1) := by decide +kernel
theorem dX6_product_14 : decode cX6_product 14 = .ok (.lconst 0, 1) := by decide +kernel
theorem dX6_product_15 : decode cX6_product 15 = .ok (.lstore 4, 2) := by decide +kernel
theorem dX6_product_17 : decode cX6_product 17 = .ok (.iconst 0, 1) := by decide +kernel
theorem dX6_product_18 : decode cX6_product 18 = .ok (.istore 6, 2) := by decide +kernel
theorem dX6_product_20 : decode cX6_product 20 = .ok (.iload 6, 2) := by decide +kernel
theorem dX6_product_22 : decode cX6_product 22 = .ok (.iload_n 1, 1) := by decide +kernel
theorem dX6_product_23 : decode cX6_product 23 = .ok (.if_icmp .gt 30, 3) := by decide +kernel
theorem dX6_product_26 : decode cX6_product 26 = .ok (.lload 4, 2) := by decide +kernel
theorem dX6_product_28 : decode cX6_product 28 = .ok (.aload_n 0, 1) := by decide +kernel
theorem dX6_product_29 : decode cX6_product 29 = .ok (.getfield 23, 3) := by decide +kernel
theorem dX6_product_32 : decode cX6_product 32 = .ok (.iload 6, 2) := by decide +kernel
theorem dX6_product_34 : decode cX6_product 34 = .ok (.laload, 1) := by decide +kernel
theorem dX6_product_35 : decode cX6_product 35 = .ok (.aload_n 0, 1) := by decide +kernel
theorem dX6_product_36 : decode cX6_product 36 = .ok (.iload 6, 2) := by decide +kernel
theorem dX6_product_38 : decode cX6_product 38 = .ok (.iload_n 1, 1) := by decide +kernel
theorem dX6_product_39 : decode cX6_product 39 = .ok (.invokevirtual 38, 3) := by decide +kernel
theorem dX6_product_42 : decode cX6_product 42 = .ok (.i2l, 1) := by decide +kernel
theorem dX6_product_43 : decode cX6_product 43 = .ok (.lmul, 1) := by decide +kernel
theorem dX6_product_44 : decode cX6_product 44 = .ok (.ladd, 1) := by decide +kernel
theorem dX6_product_45 : decode cX6_product 45 = .ok (.lstore 4, 2) := by decide +kernel
theorem dX6_product_47 : decode cX6_product 47 = .ok (.iinc 6 1, 3) := by decide +kernel
theorem dX6_product_50 : decode cX6_product 50 = .ok (.goto (-30), 3) := by decide +kernel
theorem dX6_product_53 : decode cX6_product 53 = .ok (.lload 4, 2) := by decide +kernel
theorem dX6_product_55 : decode cX6_product 55 = .ok (.bipush 10, 2) := by decide +kernel
theorem dX6_product_57 : decode cX6_product 57 = .ok (.aload_n 0, 1) := by decide +kernel
theorem dX6_product_58 : decode cX6_product 58 = .ok (.getfield 20, 3) := by decide +kernel
theorem dX6_product_61 : decode cX6_product 61 = .ok (.iload_n 1, 1) := by decide +kernel
theorem dX6_product_62 : decode cX6_product 62 = .ok (.iaload, 1) := by decide +kernel
theorem dX6_product_63 : decode cX6_product 63 = .ok (.isub, 1) := by decide +kernel
theorem dX6_product_64 : decode cX6_product 64 = .ok (.i2l, 1) := by decide +kernel
theorem dX6_product_65 : decode cX6_product 65 = .ok (.lmul, 1) := by decide +kernel
theorem dX6_product_66 : decode cX6_product 66 = .ok (.ldc2_w 49, 3) := by decide +kernel
theorem dX6_product_69 : decode cX6_product 69 = .ok (.aload_n 0, 1) := by decide +kernel
theorem dX6_product_70 : decode cX6_product 70 = .ok (.getfield 45, 3) := by decide +kernel
theorem dX6_product_73 : decode cX6_product 73 = .ok (.lmul, 1) := by decide +kernel
theorem dX6_product_74 : decode cX6_product 74 = .ok (.iload_n 2, 1) := by decide +kernel
theorem dX6_product_75 : decode cX6_product 75 = .ok (.invokestatic 64, 3) := by decide +kernel
theorem dX6_product_78 : decode cX6_product 78 = .ok (.lreturn, 1) := by decide +kernel
theorem dX6_circulatingLoad_0 : decode cX6_circulatingLoad 0 = .ok (.aload_n 0, 1) := by decide +kernel
theorem dX6_circulatingLoad_1 : decode cX6_circulatingLoad 1 = .ok (.iconst 0, 1) := by decide +kernel
theorem dX6_circulatingLoad_2 : decode cX6_circulatingLoad 2 = .ok (.iload_n 1, 1) := by decide +kernel
theorem dX6_circulatingLoad_3 : decode cX6_circulatingLoad 3 = .ok (.invokevirtual 61, 3) := by decide +kernel
theorem dX6_circulatingLoad_6 : decode cX6_circulatingLoad 6 = .ok (.istore_n 2, 1) := by decide +kernel
theorem dX6_circulatingLoad_7 : decode cX6_circulatingLoad 7 = .ok (.iload_n 2, 1) := by decide +kernel
theorem dX6_circulatingLoad_8 : decode cX6_circulatingLoad 8 = .ok (.ifCond .eq 6, 3) := by decide +kernel
theorem dX6_circulatingLoad_11 : decode cX6_circulatingLoad 11 = .ok (.iload_n 2, 1) := by decide +kernel
theorem dX6_circulatingLoad_12 : decode cX6_circulatingLoad 12 = .ok (.i2l, 1) := by decide +kernel
theorem dX6_circulatingLoad_13 : decode cX6_circulatingLoad 13 = .ok (.lreturn, 1) := by decide +kernel
theorem dX6_circulatingLoad_14 : decode cX6_circulatingLoad 14 = .ok (.lconst 0, 1) := by decide +kernel
theorem dX6_circulatingLoad_15 : decode cX6_circulatingLoad 15 = .ok (.lstore_n 3, 1) := by decide +kernel
theorem dX6_circulatingLoad_16 : decode cX6_circulatingLoad 16 = .ok (.lconst 0, 1) := by decide +kernel
theorem dX6_circulatingLoad_17 : decode cX6_circulatingLoad 17 = .ok (.lstore 5, 2) := by decide +kernel
theorem dX6_circulatingLoad_19 : decode cX6_circulatingLoad 19 = .ok (.iconst 0, 1) := by decide +kernel
theorem dX6_circulatingLoad_20 : decode cX6_circulatingLoad 20 = .ok (.istore 7, 2) := by decide +kernel
theorem dX6_circulatingLoad_22 : decode cX6_circulatingLoad 22 = .ok (.iload 7, 2) := by decide +kernel
theorem dX6_circulatingLoad_24 : decode cX6_circulatingLoad 24 = .ok (.iconst 4, 1) := by decide +kernel
theorem dX6_circulatingLoad_25 : decode cX6_circulatingLoad 25 = .ok (.if_icmp .ge 35, 3) := by decide +kernel
theorem dX6_circulatingLoad_28 : decode cX6_circulatingLoad 28 = .ok (.lload_n 3, 1) := by decide +kernel
theorem dX6_circulatingLoad_29 : decode cX6_circulatingLoad 29 = .ok (.aload_n 0, 1) := by decide +kernel
theorem dX6_circulatingLoad_30 : decode cX6_circulatingLoad 30 = .ok (.getfield 23, 3) := by decide +kernel
theorem dX6_circulatingLoad_33 : decode cX6_circulatingLoad 33 = .ok (.iload 7, 2) := by decide +kernel
theorem dX6_circulatingLoad_35 : decode cX6_circulatingLoad 35 = .ok (.laload, 1) := by decide +kernel
theorem dX6_circulatingLoad_36 : decode cX6_circulatingLoad 36 = .ok (.ladd, 1) := by decide +kernel
theorem dX6_circulatingLoad_37 : decode cX6_circulatingLoad 37 = .ok (.lstore_n 3, 1) := by decide +kernel
theorem dX6_circulatingLoad_38 : decode cX6_circulatingLoad 38 = .ok (.lload 5, 2) := by decide +kernel
theorem dX6_circulatingLoad_40 : decode cX6_circulatingLoad 40 = .ok (.aload_n 0, 1) := by decide +kernel
theorem dX6_circulatingLoad_41 : decode cX6_circulatingLoad 41 = .ok (.getfield 7, 3) := by decide +kernel
theorem dX6_circulatingLoad_44 : decode cX6_circulatingLoad 44 = .ok (.bipush 24, 2) := by decide +kernel
theorem dX6_circulatingLoad_46 : decode cX6_circulatingLoad 46 = .ok (.iload 7, 2) := by decide +kernel
theorem dX6_circulatingLoad_48 : decode cX6_circulatingLoad 48 = .ok (.iadd, 1) := by decide +kernel
theorem dX6_circulatingLoad_49 : decode cX6_circulatingLoad 49 = .ok (.iaload, 1) := by decide +kernel
theorem dX6_circulatingLoad_50 : decode cX6_circulatingLoad 50 = .ok (.i2l, 1) := by decide +kernel
theorem dX6_circulatingLoad_51 : decode cX6_circulatingLoad 51 = .ok (.ladd, 1) := by decide +kernel
theorem dX6_circulatingLoad_52 : decode cX6_circulatingLoad 52 = .ok (.lstore 5, 2) := by decide +kernel
theorem dX6_circulatingLoad_54 : decode cX6_circulatingLoad 54 = .ok (.iinc 7 1, 3) := by decide +kernel
theorem dX6_circulatingLoad_57 : decode cX6_circulatingLoad 57 = .ok (.goto (-35), 3) := by decide +kernel
theorem dX6_circulatingLoad_60 : decode cX6_circulatingLoad 60 = .ok (.lload 5, 2) := by decide +kernel
theorem dX6_circulatingLoad_62 : decode cX6_circulatingLoad 62 = .ok (.lconst 0, 1) := by decide +kernel
theorem dX6_circulatingLoad_63 : decode cX6_circulatingLoad 63 = .ok (.lcmp, 1) := by decide +kernel
theorem dX6_circulatingLoad_64 : decode cX6_circulatingLoad 64 = .ok (.ifCond .ne 9, 3) := by decide +kernel
theorem dX6_circulatingLoad_67 : decode cX6_circulatingLoad 67 = .ok (.ldc2_w 68, 3) := by decide +kernel
theorem dX6_circulatingLoad_70 : decode cX6_circulatingLoad 70 = .ok (.goto 23, 3) := by decide +kernel
theorem dX6_circulatingLoad_73 : decode cX6_circulatingLoad 73 = .ok (.lload_n 3, 1) := by decide +kernel
theorem dX6_circulatingLoad_74 : decode cX6_circulatingLoad 74 = .ok (.lload 5, 2) := by decide +kernel
theorem dX6_circulatingLoad_76 : decode cX6_circulatingLoad 76 = .ok (.aload_n 0, 1) := by decide +kernel
theorem dX6_circulatingLoad_77 : decode cX6_circulatingLoad 77 = .ok (.getfield 45, 3) := by decide +kernel
theorem dX6_circulatingLoad_80 : decode cX6_circulatingLoad 80 = .ok (.lmul, 1) := by decide +kernel
theorem dX6_circulatingLoad_81 : decode cX6_circulatingLoad 81 = .ok (.lsub, 1) := by decide +kernel
theorem dX6_circulatingLoad_82 : decode cX6_circulatingLoad 82 = .ok (.lload 5, 2) := by decide +kernel
theorem dX6_circulatingLoad_84 : decode cX6_circulatingLoad 84 = .ok (.aload_n 0, 1) := by decide +kernel
theorem dX6_circulatingLoad_85 : decode cX6_circulatingLoad 85 = .ok (.getfield 45, 3) := by decide +kernel
theorem dX6_circulatingLoad_88 : decode cX6_circulatingLoad 88 = .ok (.lmul, 1) := by decide +kernel
theorem dX6_circulatingLoad_89 : decode cX6_circulatingLoad 89 = .ok (.iload_n 1, 1) := by decide +kernel
theorem dX6_circulatingLoad_90 : decode cX6_circulatingLoad 90 = .ok (.invokestatic 64, 3) := by decide +kernel
theorem dX6_circulatingLoad_93 : decode cX6_circulatingLoad 93 = .ok (.lreturn, 1) := by decide +kernel
theorem dX6_powerOf_0 : decode cX6_powerOf 0 = .ok (.lconst 0, 1) := by decide +kernel
theorem dX6_powerOf_1 : decode cX6_powerOf 1 = .ok (.lstore_n 1, 1) := by decide +kernel
theorem dX6_powerOf_2 : decode cX6_powerOf 2 = .ok (.iconst 0, 1) := by decide +kernel
theorem dX6_powerOf_3 : decode cX6_powerOf 3 = .ok (.istore_n 3, 1) := by decide +kernel
theorem dX6_powerOf_4 : decode cX6_powerOf 4 = .ok (.iload_n 3, 1) := by decide +kernel
theorem dX6_powerOf_5 : decode cX6_powerOf 5 = .ok (.iconst 4, 1) := by decide +kernel
theorem dX6_powerOf_6 : decode cX6_powerOf 6 = .ok (.if_icmp .ge 29, 3) := by decide +kernel
theorem dX6_powerOf_9 : decode cX6_powerOf 9 = .ok (.lload_n 1, 1) := by decide +kernel
theorem dX6_powerOf_10 : decode cX6_powerOf 10 = .ok (.aload_n 0, 1) := by decide +kernel
theorem dX6_powerOf_11 : decode cX6_powerOf 11 = .ok (.getfield 7, 3) := by decide +kernel
theorem dX6_powerOf_14 : decode cX6_powerOf 14 = .ok (.bipush 20, 2) := by decide +kernel
theorem dX6_powerOf_16 : decode cX6_powerOf 16 = .ok (.iload_n 3, 1) := by decide +kernel
theorem dX6_powerOf_17 : decode cX6_powerOf 17 = .ok (.iadd, 1) := by decide +kernel
theorem dX6_powerOf_18 : decode cX6_powerOf 18 = .ok (.iaload, 1) := by decide +kernel
theorem dX6_powerOf_19 : decode cX6_powerOf 19 = .ok (.i2l, 1) := by decide +kernel
theorem dX6_powerOf_20 : decode cX6_powerOf 20 = .ok (.aload_n 0, 1) := by decide +kernel
theorem dX6_powerOf_21 : decode cX6_powerOf 21 = .ok (.getfield 23, 3) := by decide +kernel
theorem dX6_powerOf_24 : decode cX6_powerOf 24 = .ok (.iload_n 3, 1) := by decide +kernel
theorem dX6_powerOf_25 : decode cX6_powerOf 25 = .ok (.laload, 1) := by decide +kernel
theorem dX6_powerOf_26 : decode cX6_powerOf 26 = .ok (.lmul, 1) := by decide +kernel
theorem dX6_powerOf_27 : decode cX6_powerOf 27 = .ok (.ladd, 1) := by decide +kernel
theorem dX6_powerOf_28 : decode cX6_powerOf 28 = .ok (.lstore_n 1, 1) := by decide +kernel
theorem dX6_powerOf_29 : decode cX6_powerOf 29 = .ok (.iinc 3 1, 3) := by decide +kernel
theorem dX6_powerOf_32 : decode cX6_powerOf 32 = .ok (.goto (-28), 3) := by decide +kernel
theorem dX6_powerOf_35 : decode cX6_powerOf 35 = .ok (.lload_n 1, 1) := by decide +kernel
theorem dX6_powerOf_36 : decode cX6_powerOf 36 = .ok (.lreturn, 1) := by decide +kernel
theorem dX6_power_0 : decode cX6_power 0 = .ok (.aload_n 0, 1) := by decide +kernel
theorem dX6_power_1 : decode cX6_power 1 = .ok (.iconst 0, 1) := by decide +kernel
theorem dX6_power_2 : decode cX6_power 2 = .ok (.iload_n 1, 1) := by decide +kernel
theorem dX6_power_3 : decode cX6_power 3 = .ok (.invokevirtual 61, 3) := by decide +kernel
theorem dX6_power_6 : decode cX6_power 6 = .ok (.istore_n 2, 1) := by decide +kernel
theorem dX6_power_7 : decode cX6_power 7 = .ok (.iload_n 2, 1) := by decide +kernel
theorem dX6_power_8 : decode cX6_power 8 = .ok (.ifCond .eq 8, 3) := by decide +kernel
theorem dX6_power_11 : decode cX6_power 11 = .ok (.iload_n 2, 1) := by decide +kernel
theorem dX6_power_12 : decode cX6_power 12 = .ok (.i2l, 1) := by decide +kernel
theorem dX6_power_13 : decode cX6_power 13 = .ok (.goto 15, 3) := by decide +kernel
theorem dX6_power_16 : decode cX6_power 16 = .ok (.aload_n 0, 1) := by decide +kernel
theorem dX6_power_17 : decode cX6_power 17 = .ok (.invokevirtual 70, 3) := by decide +kernel
theorem dX6_power_20 : decode cX6_power 20 = .ok (.aload_n 0, 1) := by decide +kernel
theorem dX6_power_21 : decode cX6_power 21 = .ok (.getfield 45, 3) := by decide +kernel
theorem dX6_power_24 : decode cX6_power 24 = .ok (.iload_n 1, 1) := by decide +kernel
theorem dX6_power_25 : decode cX6_power 25 = .ok (.invokestatic 64, 3) := by decide +kernel
theorem dX6_power_28 : decode cX6_power 28 = .ok (.lreturn, 1) := by decide +kernel
theorem dX6_cutPower_0 : decode cX6_cutPower 0 = .ok (.iload_n 1, 1) := by decide +kernel
theorem dX6_cutPower_1 : decode cX6_cutPower 1 = .ok (.iconst 0, 1) := by decide +kernel
theorem dX6_cutPower_2 : decode cX6_cutPower 2 = .ok (.iconst 4, 1) := by decide +kernel
theorem dX6_cutPower_3 : decode cX6_cutPower 3 = .ok (.invokestatic 30, 3) := by decide +kernel
theorem dX6_cutPower_6 : decode cX6_cutPower 6 = .ok (.ifCond .eq 10, 3) := by decide +kernel
theorem dX6_cutPower_9 : decode cX6_cutPower 9 = .ok (.iload_n 2, 1) := by decide +kernel
theorem dX6_cutPower_10 : decode cX6_cutPower 10 = .ok (.invokestatic 51, 3) := by decide +kernel
theorem dX6_cutPower_13 : decode cX6_cutPower 13 = .ok (.ifCond .ne 7, 3) := by decide +kernel
theorem dX6_cutPower_16 : decode cX6_cutPower 16 = .ok (.ldc2_w 74, 3) := by decide +kernel
theorem dX6_cutPower_19 : decode cX6_cutPower 19 = .ok (.lreturn, 1) := by decide +kernel
theorem dX6_cutPower_20 : decode cX6_cutPower 20 = .ok (.aload_n 0, 1) := by decide +kernel
theorem dX6_cutPower_21 : decode cX6_cutPower 21 = .ok (.iload_n 1, 1) := by decide +kernel
theorem dX6_cutPower_22 : decode cX6_cutPower 22 = .ok (.invokevirtual 76, 3) := by decide +kernel
theorem dX6_cutPower_25 : decode cX6_cutPower 25 = .ok (.aload_n 0, 1) := by decide +kernel
theorem dX6_cutPower_26 : decode cX6_cutPower 26 = .ok (.invokevirtual 57, 3) := by decide +kernel
theorem dX6_cutPower_29 : decode cX6_cutPower 29 = .ok (.ifCond .eq 18, 3) := by decide +kernel
theorem dX6_cutPower_32 : decode cX6_cutPower 32 = .ok (.aload_n 0, 1) := by decide +kernel
theorem dX6_cutPower_33 : decode cX6_cutPower 33 = .ok (.invokevirtual 70, 3) := by decide +kernel
theorem dX6_cutPower_36 : decode cX6_cutPower 36 = .ok (.aload_n 0, 1) := by decide +kernel
theorem dX6_cutPower_37 : decode cX6_cutPower 37 = .ok (.getfield 45, 3) := by decide +kernel
theorem dX6_cutPower_40 : decode cX6_cutPower 40 = .ok (.iload_n 2, 1) := by decide +kernel
theorem dX6_cutPower_41 : decode cX6_cutPower 41 = .ok (.invokestatic 64, 3) := by decide +kernel
theorem dX6_cutPower_44 : decode cX6_cutPower 44 = .ok (.goto 6, 3) := by decide +kernel
theorem dX6_cutPower_47 : decode cX6_cutPower 47 = .ok (.ldc2_w 80, 3) := by decide +kernel
theorem dX6_cutPower_50 : decode cX6_cutPower 50 = .ok (.lreturn, 1) := by decide +kernel
theorem dX6_finestCut_0 : decode cX6_finestCut 0 = .ok (.iload_n 1, 1) := by decide +kernel
theorem dX6_finestCut_1 : decode cX6_finestCut 1 = .ok (.iconst 0, 1) := by decide +kernel
theorem dX6_finestCut_2 : decode cX6_finestCut 2 = .ok (.ldc 82, 2) := by decide +kernel
theorem dX6_finestCut_4 : decode cX6_finestCut 4 = .ok (.invokestatic 30, 3) := by decide +kernel
theorem dX6_finestCut_7 : decode cX6_finestCut 7 = .ok (.ifCond .ne 6, 3) := by decide +kernel
theorem dX6_finestCut_10 : decode cX6_finestCut 10 = .ok (.bipush (-3), 2) := by decide +kernel
theorem dX6_finestCut_12 : decode cX6_finestCut 12 = .ok (.ireturn, 1) := by decide +kernel
theorem dX6_finestCut_13 : decode cX6_finestCut 13 = .ok (.iconst 4, 1) := by decide +kernel
theorem dX6_finestCut_14 : decode cX6_finestCut 14 = .ok (.istore_n 2, 1) := by decide +kernel
theorem dX6_finestCut_15 : decode cX6_finestCut 15 = .ok (.iload_n 2, 1) := by decide +kernel
theorem dX6_finestCut_16 : decode cX6_finestCut 16 = .ok (.ifCond .lt 38, 3) := by decide +kernel
theorem dX6_finestCut_19 : decode cX6_finestCut 19 = .ok (.aload_n 0, 1) := by decide +kernel
theorem dX6_finestCut_20 : decode cX6_finestCut 20 = .ok (.iload_n 2, 1) := by decide +kernel
theorem dX6_finestCut_21 : decode cX6_finestCut 21 = .ok (.invokevirtual 76, 3) := by decide +kernel
theorem dX6_finestCut_24 : decode cX6_finestCut 24 = .ok (.aload_n 0, 1) := by decide +kernel
theorem dX6_finestCut_25 : decode cX6_finestCut 25 = .ok (.invokevirtual 57, 3) := by decide +kernel
theorem dX6_finestCut_28 : decode cX6_finestCut 28 = .ok (.ifCond .eq 20, 3) := by decide +kernel
theorem dX6_finestCut_31 : decode cX6_finestCut 31 = .ok (.aload_n 0, 1) := by decide +kernel
theorem dX6_finestCut_32 : decode cX6_finestCut 32 = .ok (.invokevirtual 70, 3) := by decide +kernel
theorem dX6_finestCut_35 : decode cX6_finestCut 35 = .ok (.iload_n 1, 1) := by decide +kernel
theorem dX6_finestCut_36 : decode cX6_finestCut 36 = .ok (.i2l, 1) := by decide +kernel
theorem dX6_finestCut_37 : decode cX6_finestCut 37 = .ok (.aload_n 0, 1) := by decide +kernel
theorem dX6_finestCut_38 : decode cX6_finestCut 38 = .ok (.getfield 45, 3) := by decide +kernel
theorem dX6_finestCut_41 : decode cX6_finestCut 41 = .ok (.lmul, 1) := by decide +kernel
theorem dX6_finestCut_42 : decode cX6_finestCut 42 = .ok (.lcmp, 1) := by decide +kernel
theorem dX6_finestCut_43 : decode cX6_finestCut 43 = .ok (.ifCond .gt 5, 3) := by decide +kernel
theorem dX6_finestCut_46 : decode cX6_finestCut 46 = .ok (.iload_n 2, 1) := by decide +kernel
theorem dX6_finestCut_47 : decode cX6_finestCut 47 = .ok (.ireturn, 1) := by decide +kernel
theorem dX6_finestCut_48 : decode cX6_finestCut 48 = .ok (.iinc 2 (-1), 3) := by decide +kernel
theorem dX6_finestCut_51 : decode cX6_finestCut 51 = .ok (.goto (-36), 3) := by decide +kernel
theorem dX6_finestCut_54 : decode cX6_finestCut 54 = .ok (.bipush (-7), 2) := by decide +kernel
theorem dX6_finestCut_56 : decode cX6_finestCut 56 = .ok (.ireturn, 1) := by decide +kernel
theorem dX6_lot_0 : decode cX6_lot 0 = .ok (.bipush 41, 2) := by decide +kernel
theorem dX6_lot_2 : decode cX6_lot 2 = .ok (.bipush 8, 2) := by decide +kernel
theorem dX6_lot_4 : decode cX6_lot 4 = .ok (.iload_n 0, 1) := by decide +kernel
theorem dX6_lot_5 : decode cX6_lot 5 = .ok (.imul, 1) := by decide +kernel
theorem dX6_lot_6 : decode cX6_lot 6 = .ok (.iadd, 1) := by decide +kernel
theorem dX6_lot_7 : decode cX6_lot 7 = .ok (.iload_n 1, 1) := by decide +kernel
theorem dX6_lot_8 : decode cX6_lot 8 = .ok (.iadd, 1) := by decide +kernel
theorem dX6_lot_9 : decode cX6_lot 9 = .ok (.ireturn, 1) := by decide +kernel
theorem dX6_of_0 : decode cX6_of 0 = .ok (.aload_n 0, 1) := by decide +kernel
theorem dX6_of_1 : decode cX6_of 1 = .ok (.getfield 7, 3) := by decide +kernel
theorem dX6_of_4 : decode cX6_of 4 = .ok (.iload_n 1, 1) := by decide +kernel
theorem dX6_of_5 : decode cX6_of 5 = .ok (.iload_n 2, 1) := by decide +kernel
theorem dX6_of_6 : decode cX6_of 6 = .ok (.invokestatic 83, 3) := by decide +kernel
theorem dX6_of_9 : decode cX6_of 9 = .ok (.iaload, 1) := by decide +kernel
theorem dX6_of_10 : decode cX6_of 10 = .ok (.ireturn, 1) := by decide +kernel
theorem dX6_weight_0 : decode cX6_weight 0 = .ok (.aload_n 0, 1) := by decide +kernel
theorem dX6_weight_1 : decode cX6_weight 1 = .ok (.iload_n 1, 1) := by decide +kernel
theorem dX6_weight_2 : decode cX6_weight 2 = .ok (.iconst 0, 1) := by decide +kernel
theorem dX6_weight_3 : decode cX6_weight 3 = .ok (.invokevirtual 86, 3) := by decide +kernel
theorem dX6_weight_6 : decode cX6_weight 6 = .ok (.aload_n 0, 1) := by decide +kernel
theorem dX6_weight_7 : decode cX6_weight 7 = .ok (.iload_n 1, 1) := by decide +kernel
theorem dX6_weight_8 : decode cX6_weight 8 = .ok (.iconst 1, 1) := by decide +kernel
theorem dX6_weight_9 : decode cX6_weight 9 = .ok (.invokevirtual 86, 3) := by decide +kernel
theorem dX6_weight_12 : decode cX6_weight 12 = .ok (.iadd, 1) := by decide +kernel
theorem dX6_weight_13 : decode cX6_weight 13 = .ok (.aload_n 0, 1) := by decide +kernel
theorem dX6_weight_14 : decode cX6_weight 14 = .ok (.iload_n 1, 1) := by decide +kernel
theorem dX6_weight_15 : decode cX6_weight 15 = .ok (.iconst 2, 1) := by decide +kernel
theorem dX6_weight_16 : decode cX6_weight 16 = .ok (.invokevirtual 86, 3) := by decide +kernel
theorem dX6_weight_19 : decode cX6_weight 19 = .ok (.iadd, 1) := by decide +kernel
theorem dX6_weight_20 : decode cX6_weight 20 = .ok (.aload_n 0, 1) := by decide +kernel
theorem dX6_weight_21 : decode cX6_weight 21 = .ok (.iload_n 1, 1) := by decide +kernel
theorem dX6_weight_22 : decode cX6_weight 22 = .ok (.iconst 3, 1) := by decide +kernel
theorem dX6_weight_23 : decode cX6_weight 23 = .ok (.invokevirtual 86, 3) := by decide +kernel
theorem dX6_weight_26 : decode cX6_weight 26 = .ok (.iadd, 1) := by decide +kernel
theorem dX6_weight_27 : decode cX6_weight 27 = .ok (.ireturn, 1) := by decide +kernel
theorem dX6_ahead_0 : decode cX6_ahead 0 = .ok (.aload_n 0, 1) := by decide +kernel
theorem dX6_ahead_1 : decode cX6_ahead 1 = .ok (.getfield 7, 3) := by decide +kernel
theorem dX6_ahead_4 : decode cX6_ahead 4 = .ok (.bipush 29, 2) := by decide +kernel
theorem dX6_ahead_6 : decode cX6_ahead 6 = .ok (.iaload, 1) := by decide +kernel
theorem dX6_ahead_7 : decode cX6_ahead 7 = .ok (.ifCond .ne 5, 3) := by decide +kernel
theorem dX6_ahead_10 : decode cX6_ahead 10 = .ok (.iconst 0, 1) := by decide +kernel
theorem dX6_ahead_11 : decode cX6_ahead 11 = .ok (.ireturn, 1) := by decide +kernel
theorem dX6_ahead_12 : decode cX6_ahead 12 = .ok (.aload_n 0, 1) := by decide +kernel
theorem dX6_ahead_13 : decode cX6_ahead 13 = .ok (.getfield 7, 3) := by decide +kernel
theorem dX6_ahead_16 : decode cX6_ahead 16 = .ok (.bipush 29, 2) := by decide +kernel
theorem dX6_ahead_18 : decode cX6_ahead 18 = .ok (.iaload, 1) := by decide +kernel
theorem dX6_ahead_19 : decode cX6_ahead 19 = .ok (.iconst 1, 1) := by decide +kernel
theorem dX6_ahead_20 : decode cX6_ahead 20 = .ok (.if_icmp .ne 15, 3) := by decide +kernel
theorem dX6_ahead_23 : decode cX6_ahead 23 = .ok (.aload_n 0, 1) := by decide +kernel
theorem dX6_ahead_24 : decode cX6_ahead 24 = .ok (.iload_n 1, 1) := by decide +kernel
theorem dX6_ahead_25 : decode cX6_ahead 25 = .ok (.invokevirtual 89, 3) := by decide +kernel
theorem dX6_ahead_28 : decode cX6_ahead 28 = .ok (.aload_n 0, 1) := by decide +kernel
theorem dX6_ahead_29 : decode cX6_ahead 29 = .ok (.iload_n 2, 1) := by decide +kernel
theorem dX6_ahead_30 : decode cX6_ahead 30 = .ok (.invokevirtual 89, 3) := by decide +kernel
theorem dX6_ahead_33 : decode cX6_ahead 33 = .ok (.isub, 1) := by decide +kernel
theorem dX6_ahead_34 : decode cX6_ahead 34 = .ok (.ireturn, 1) := by decide +kernel
theorem dX6_ahead_35 : decode cX6_ahead 35 = .ok (.iconst 0, 1) := by decide +kernel
theorem dX6_ahead_36 : decode cX6_ahead 36 = .ok (.istore_n 3, 1) := by decide +kernel
theorem dX6_ahead_37 : decode cX6_ahead 37 = .ok (.iload_n 3, 1) := by decide +kernel
theorem dX6_ahead_38 : decode cX6_ahead 38 = .ok (.iconst 3, 1) := by decide +kernel
theorem dX6_ahead_39 : decode cX6_ahead 39 = .ok (.if_icmp .ge 24, 3) := by decide +kernel
theorem dX6_ahead_42 : decode cX6_ahead 42 = .ok (.aload_n 0, 1) := by decide +kernel
theorem dX6_ahead_43 : decode cX6_ahead 43 = .ok (.iload_n 1, 1) := by decide +kernel
theorem dX6_ahead_44 : decode cX6_ahead 44 = .ok (.iload_n 3, 1) := by decide +kernel
theorem dX6_ahead_45 : decode cX6_ahead 45 = .ok (.invokevirtual 86, 3) := by decide +kernel
theorem dX6_ahead_48 : decode cX6_ahead 48 = .ok (.aload_n 0, 1) := by decide +kernel
theorem dX6_ahead_49 : decode cX6_ahead 49 = .ok (.iload_n 2, 1) := by decide +kernel
theorem dX6_ahead_50 : decode cX6_ahead 50 = .ok (.iload_n 3, 1) := by decide +kernel
theorem dX6_ahead_51 : decode cX6_ahead 51 = .ok (.invokevirtual 86, 3) := by decide +kernel
theorem dX6_ahead_54 : decode cX6_ahead 54 = .ok (.if_icmp .ne 9, 3) := by decide +kernel
theorem dX6_ahead_57 : decode cX6_ahead 57 = .ok (.iinc 3 1, 3) := by decide +kernel
theorem dX6_ahead_60 : decode cX6_ahead 60 = .ok (.goto (-23), 3) := by decide +kernel
theorem dX6_ahead_63 : decode cX6_ahead 63 = .ok (.aload_n 0, 1) := by decide +kernel
theorem dX6_ahead_64 : decode cX6_ahead 64 = .ok (.iload_n 1, 1) := by decide +kernel
theorem dX6_ahead_65 : decode cX6_ahead 65 = .ok (.iload_n 3, 1) := by decide +kernel
theorem dX6_ahead_66 : decode cX6_ahead 66 = .ok (.invokevirtual 86, 3) := by decide +kernel
theorem dX6_ahead_69 : decode cX6_ahead 69 = .ok (.aload_n 0, 1) := by decide +kernel
theorem dX6_ahead_70 : decode cX6_ahead 70 = .ok (.iload_n 2, 1) := by decide +kernel
theorem dX6_ahead_71 : decode cX6_ahead 71 = .ok (.iload_n 3, 1) := by decide +kernel
theorem dX6_ahead_72 : decode cX6_ahead 72 = .ok (.invokevirtual 86, 3) := by decide +kernel
theorem dX6_ahead_75 : decode cX6_ahead 75 = .ok (.isub, 1) := by decide +kernel
theorem dX6_ahead_76 : decode cX6_ahead 76 = .ok (.ireturn, 1) := by decide +kernel
theorem dX6_isAhead_0 : decode cX6_isAhead 0 = .ok (.aload_n 0, 1) := by decide +kernel
theorem dX6_isAhead_1 : decode cX6_isAhead 1 = .ok (.iload_n 1, 1) := by decide +kernel
theorem dX6_isAhead_2 : decode cX6_isAhead 2 = .ok (.iload_n 2, 1) := by decide +kernel
theorem dX6_isAhead_3 : decode cX6_isAhead 3 = .ok (.invokevirtual 93, 3) := by decide +kernel
theorem dX6_isAhead_6 : decode cX6_isAhead 6 = .ok (.istore_n 3, 1) := by decide +kernel
theorem dX6_isAhead_7 : decode cX6_isAhead 7 = .ok (.iload_n 3, 1) := by decide +kernel
theorem dX6_isAhead_8 : decode cX6_isAhead 8 = .ok (.ifCond .gt 22, 3) := by decide +kernel
theorem dX6_isAhead_11 : decode cX6_isAhead 11 = .ok (.iload_n 3, 1) := by decide +kernel
theorem dX6_isAhead_12 : decode cX6_isAhead 12 = .ok (.ifCond .ne 22, 3) := by decide +kernel
theorem dX6_isAhead_15 : decode cX6_isAhead 15 = .ok (.aload_n 0, 1) := by decide +kernel
theorem dX6_isAhead_16 : decode cX6_isAhead 16 = .ok (.iload_n 1, 1) := by decide +kernel
theorem dX6_isAhead_17 : decode cX6_isAhead 17 = .ok (.iconst 5, 1) := by decide +kernel
theorem dX6_isAhead_18 : decode cX6_isAhead 18 = .ok (.invokevirtual 86, 3) := by decide +kernel
theorem dX6_isAhead_21 : decode cX6_isAhead 21 = .ok (.aload_n 0, 1) := by decide +kernel
theorem dX6_isAhead_22 : decode cX6_isAhead 22 = .ok (.iload_n 2, 1) := by decide +kernel
theorem dX6_isAhead_23 : decode cX6_isAhead 23 = .ok (.iconst 5, 1) := by decide +kernel
theorem dX6_isAhead_24 : decode cX6_isAhead 24 = .ok (.invokevirtual 86, 3) := by decide +kernel
theorem dX6_isAhead_27 : decode cX6_isAhead 27 = .ok (.if_icmp .ge 7, 3) := by decide +kernel
theorem dX6_isAhead_30 : decode cX6_isAhead 30 = .ok (.iconst 1, 1) := by decide +kernel
theorem dX6_isAhead_31 : decode cX6_isAhead 31 = .ok (.goto 4, 3) := by decide +kernel
theorem dX6_isAhead_34 : decode cX6_isAhead 34 = .ok (.iconst 0, 1) := by decide +kernel
theorem dX6_isAhead_35 : decode cX6_isAhead 35 = .ok (.ireturn, 1) := by decide +kernel
theorem dX6_place_0 : decode cX6_place 0 = .ok (.iconst 0, 1) := by decide +kernel
theorem dX6_place_1 : decode cX6_place 1 = .ok (.istore_n 2, 1) := by decide +kernel
theorem dX6_place_2 : decode cX6_place 2 = .ok (.iconst 0, 1) := by decide +kernel
theorem dX6_place_3 : decode cX6_place 3 = .ok (.istore_n 3, 1) := by decide +kernel
theorem dX6_place_4 : decode cX6_place 4 = .ok (.iload_n 3, 1) := by decide +kernel
theorem dX6_place_5 : decode cX6_place 5 = .ok (.aload_n 0, 1) := by decide +kernel
theorem dX6_place_6 : decode cX6_place 6 = .ok (.getfield 7, 3) := by decide +kernel
theorem dX6_place_9 : decode cX6_place 9 = .ok (.bipush 31, 2) := by decide +kernel
theorem dX6_place_11 : decode cX6_place 11 = .ok (.iaload, 1) := by decide +kernel
theorem dX6_place_12 : decode cX6_place 12 = .ok (.if_icmp .ge 41, 3) := by decide +kernel
theorem dX6_place_15 : decode cX6_place 15 = .ok (.iload_n 2, 1) := by decide +kernel
theorem dX6_place_16 : decode cX6_place 16 = .ok (.iload_n 3, 1) := by decide +kernel
theorem dX6_place_17 : decode cX6_place 17 = .ok (.iload_n 1, 1) := by decide +kernel
theorem dX6_place_18 : decode cX6_place 18 = .ok (.if_icmp .eq 26, 3) := by decide +kernel
theorem dX6_place_21 : decode cX6_place 21 = .ok (.aload_n 0, 1) := by decide +kernel
theorem dX6_place_22 : decode cX6_place 22 = .ok (.iload_n 3, 1) := by decide +kernel
theorem dX6_place_23 : decode cX6_place 23 = .ok (.iconst 4, 1) := by decide +kernel
theorem dX6_place_24 : decode cX6_place 24 = .ok (.invokevirtual 86, 3) := by decide +kernel
theorem dX6_place_27 : decode cX6_place 27 = .ok (.iconst 1, 1) := by decide +kernel
theorem dX6_place_28 : decode cX6_place 28 = .ok (.if_icmp .ne 16, 3) := by decide +kernel
theorem dX6_place_31 : decode cX6_place 31 = .ok (.aload_n 0, 1) := by decide +kernel
theorem dX6_place_32 : decode cX6_place 32 = .ok (.iload_n 3, 1) := by decide +kernel
theorem dX6_place_33 : decode cX6_place 33 = .ok (.iload_n 1, 1) := by decide +kernel
theorem dX6_place_34 : decode cX6_place 34 = .ok (.invokevirtual 96, 3) := by decide +kernel
theorem dX6_place_37 : decode cX6_place 37 = .ok (.ifCond .eq 7, 3) := by decide +kernel
theorem dX6_place_40 : decode cX6_place 40 = .ok (.iconst 1, 1) := by decide +kernel
theorem dX6_place_41 : decode cX6_place 41 = .ok (.goto 4, 3) := by decide +kernel
theorem dX6_place_44 : decode cX6_place 44 = .ok (.iconst 0, 1) := by decide +kernel
theorem dX6_place_45 : decode cX6_place 45 = .ok (.iadd, 1) := by decide +kernel
theorem dX6_place_46 : decode cX6_place 46 = .ok (.istore_n 2, 1) := by decide +kernel
theorem dX6_place_47 : decode cX6_place 47 = .ok (.iinc 3 1, 3) := by decide +kernel
theorem dX6_place_50 : decode cX6_place 50 = .ok (.goto (-46), 3) := by decide +kernel
theorem dX6_place_53 : decode cX6_place 53 = .ok (.iload_n 2, 1) := by decide +kernel
theorem dX6_place_54 : decode cX6_place 54 = .ok (.ireturn, 1) := by decide +kernel
theorem dX6_inBin_0 : decode cX6_inBin 0 = .ok (.iconst 0, 1) := by decide +kernel
theorem dX6_inBin_1 : decode cX6_inBin 1 = .ok (.istore_n 2, 1) := by decide +kernel
theorem dX6_inBin_2 : decode cX6_inBin 2 = .ok (.iload_n 2, 1) := by decide +kernel
theorem dX6_inBin_3 : decode cX6_inBin 3 = .ok (.aload_n 0, 1) := by decide +kernel
theorem dX6_inBin_4 : decode cX6_inBin 4 = .ok (.getfield 7, 3) := by decide +kernel
theorem dX6_inBin_7 : decode cX6_inBin 7 = .ok (.bipush 31, 2) := by decide +kernel
theorem dX6_inBin_9 : decode cX6_inBin 9 = .ok (.iaload, 1) := by decide +kernel
theorem dX6_inBin_10 : decode cX6_inBin 10 = .ok (.if_icmp .ge 30, 3) := by decide +kernel
theorem dX6_inBin_13 : decode cX6_inBin 13 = .ok (.aload_n 0, 1) := by decide +kernel
theorem dX6_inBin_14 : decode cX6_inBin 14 = .ok (.iload_n 2, 1) := by decide +kernel
theorem dX6_inBin_15 : decode cX6_inBin 15 = .ok (.iconst 4, 1) := by decide +kernel
theorem dX6_inBin_16 : decode cX6_inBin 16 = .ok (.invokevirtual 86, 3) := by decide +kernel
theorem dX6_inBin_19 : decode cX6_inBin 19 = .ok (.iconst 1, 1) := by decide +kernel
theorem dX6_inBin_20 : decode cX6_inBin 20 = .ok (.if_icmp .ne 14, 3) := by decide +kernel
theorem dX6_inBin_23 : decode cX6_inBin 23 = .ok (.aload_n 0, 1) := by decide +kernel
theorem dX6_inBin_24 : decode cX6_inBin 24 = .ok (.iload_n 2, 1) := by decide +kernel
theorem dX6_inBin_25 : decode cX6_inBin 25 = .ok (.invokevirtual 100, 3) := by decide +kernel
theorem dX6_inBin_28 : decode cX6_inBin 28 = .ok (.iload_n 1, 1) := by decide +kernel
theorem dX6_inBin_29 : decode cX6_inBin 29 = .ok (.if_icmp .ne 5, 3) := by decide +kernel
theorem dX6_inBin_32 : decode cX6_inBin 32 = .ok (.iload_n 2, 1) := by decide +kernel
theorem dX6_inBin_33 : decode cX6_inBin 33 = .ok (.ireturn, 1) := by decide +kernel
theorem dX6_inBin_34 : decode cX6_inBin 34 = .ok (.iinc 2 1, 3) := by decide +kernel
theorem dX6_inBin_37 : decode cX6_inBin 37 = .ok (.goto (-35), 3) := by decide +kernel
theorem dX6_inBin_40 : decode cX6_inBin 40 = .ok (.bipush (-7), 2) := by decide +kernel
theorem dX6_inBin_42 : decode cX6_inBin 42 = .ok (.ireturn, 1) := by decide +kernel
theorem dX6_comes_0 : decode cX6_comes 0 = .ok (.aload_n 0, 1) := by decide +kernel
theorem dX6_comes_1 : decode cX6_comes 1 = .ok (.getfield 7, 3) := by decide +kernel
theorem dX6_comes_4 : decode cX6_comes 4 = .ok (.iload_n 1, 1) := by decide +kernel
theorem dX6_comes_5 : decode cX6_comes 5 = .ok (.iconst 4, 1) := by decide +kernel
theorem dX6_comes_6 : decode cX6_comes 6 = .ok (.invokestatic 83, 3) := by decide +kernel
theorem dX6_comes_9 : decode cX6_comes 9 = .ok (.iconst 1, 1) := by decide +kernel
theorem dX6_comes_10 : decode cX6_comes 10 = .ok (.iastore, 1) := by decide +kernel
theorem dX6_comes_11 : decode cX6_comes 11 = .ok (.aload_n 0, 1) := by decide +kernel
theorem dX6_comes_12 : decode cX6_comes 12 = .ok (.getfield 7, 3) := by decide +kernel
theorem dX6_comes_15 : decode cX6_comes 15 = .ok (.iload_n 1, 1) := by decide +kernel
theorem dX6_comes_16 : decode cX6_comes 16 = .ok (.iconst 5, 1) := by decide +kernel
theorem dX6_comes_17 : decode cX6_comes 17 = .ok (.invokestatic 83, 3) := by decide +kernel
theorem dX6_comes_20 : decode cX6_comes 20 = .ok (.aload_n 0, 1) := by decide +kernel
theorem dX6_comes_21 : decode cX6_comes 21 = .ok (.getfield 7, 3) := by decide +kernel
theorem dX6_comes_24 : decode cX6_comes 24 = .ok (.bipush 34, 2) := by decide +kernel
theorem dX6_comes_26 : decode cX6_comes 26 = .ok (.iaload, 1) := by decide +kernel
theorem dX6_comes_27 : decode cX6_comes 27 = .ok (.iastore, 1) := by decide +kernel
theorem dX6_comes_28 : decode cX6_comes 28 = .ok (.aload_n 0, 1) := by decide +kernel
theorem dX6_comes_29 : decode cX6_comes 29 = .ok (.getfield 7, 3) := by decide +kernel
theorem dX6_comes_32 : decode cX6_comes 32 = .ok (.bipush 34, 2) := by decide +kernel
theorem dX6_comes_34 : decode cX6_comes 34 = .ok (.dup2, 1) := by decide +kernel
theorem dX6_comes_35 : decode cX6_comes 35 = .ok (.iaload, 1) := by decide +kernel
theorem dX6_comes_36 : decode cX6_comes 36 = .ok (.iconst 1, 1) := by decide +kernel
theorem dX6_comes_37 : decode cX6_comes 37 = .ok (.iadd, 1) := by decide +kernel
theorem dX6_comes_38 : decode cX6_comes 38 = .ok (.iastore, 1) := by decide +kernel
theorem dX6_comes_39 : decode cX6_comes 39 = .ok (.return_, 1) := by decide +kernel
theorem dX6_start_0 : decode cX6_start 0 = .ok (.aload_n 0, 1) := by decide +kernel
theorem dX6_start_1 : decode cX6_start 1 = .ok (.getfield 7, 3) := by decide +kernel
theorem dX6_start_4 : decode cX6_start 4 = .ok (.bipush 35, 2) := by decide +kernel
theorem dX6_start_6 : decode cX6_start 6 = .ok (.iaload, 1) := by decide +kernel
theorem dX6_start_7 : decode cX6_start 7 = .ok (.ifCond .ge 11, 3) := by decide +kernel
theorem dX6_start_10 : decode cX6_start 10 = .ok (.aload_n 0, 1) := by decide +kernel
theorem dX6_start_11 : decode cX6_start 11 = .ok (.iconst 0, 1) := by decide +kernel
theorem dX6_start_12 : decode cX6_start 12 = .ok (.invokevirtual 103, 3) := by decide +kernel
theorem dX6_start_15 : decode cX6_start 15 = .ok (.goto 5, 3) := by decide +kernel
theorem dX6_start_18 : decode cX6_start 18 = .ok (.bipush (-7), 2) := by decide +kernel
theorem dX6_start_20 : decode cX6_start 20 = .ok (.istore_n 1, 1) := by decide +kernel
theorem dX6_start_21 : decode cX6_start 21 = .ok (.iload_n 1, 1) := by decide +kernel
theorem dX6_start_22 : decode cX6_start 22 = .ok (.ifCond .lt 60, 3) := by decide +kernel
theorem dX6_start_25 : decode cX6_start 25 = .ok (.aload_n 0, 1) := by decide +kernel
theorem dX6_start_26 : decode cX6_start 26 = .ok (.getfield 7, 3) := by decide +kernel
theorem dX6_start_29 : decode cX6_start 29 = .ok (.iload_n 1, 1) := by decide +kernel
theorem dX6_start_30 : decode cX6_start 30 = .ok (.iconst 4, 1) := by decide +kernel
theorem dX6_start_31 : decode cX6_start 31 = .ok (.invokestatic 83, 3) := by decide +kernel
theorem dX6_start_34 : decode cX6_start 34 = .ok (.iconst 2, 1) := by decide +kernel
theorem dX6_start_35 : decode cX6_start 35 = .ok (.iastore, 1) := by decide +kernel
theorem dX6_start_36 : decode cX6_start 36 = .ok (.aload_n 0, 1) := by decide +kernel
theorem dX6_start_37 : decode cX6_start 37 = .ok (.getfield 7, 3) := by decide +kernel
theorem dX6_start_40 : decode cX6_start 40 = .ok (.bipush 35, 2) := by decide +kernel
theorem dX6_start_42 : decode cX6_start 42 = .ok (.iload_n 1, 1) := by decide +kernel
theorem dX6_start_43 : decode cX6_start 43 = .ok (.iastore, 1) := by decide +kernel
theorem dX6_start_44 : decode cX6_start 44 = .ok (.aload_n 0, 1) := by decide +kernel
theorem dX6_start_45 : decode cX6_start 45 = .ok (.getfield 7, 3) := by decide +kernel
theorem dX6_start_48 : decode cX6_start 48 = .ok (.bipush 36, 2) := by decide +kernel
theorem dX6_start_50 : decode cX6_start 50 = .ok (.aload_n 0, 1) := by decide +kernel
theorem dX6_start_51 : decode cX6_start 51 = .ok (.getfield 7, 3) := by decide +kernel
theorem dX6_start_54 : decode cX6_start 54 = .ok (.bipush 30, 2) := by decide +kernel
theorem dX6_start_56 : decode cX6_start 56 = .ok (.iaload, 1) := by decide +kernel
theorem dX6_start_57 : decode cX6_start 57 = .ok (.aload_n 0, 1) := by decide +kernel
theorem dX6_start_58 : decode cX6_start 58 = .ok (.iload_n 1, 1) := by decide +kernel
theorem dX6_start_59 : decode cX6_start 59 = .ok (.invokevirtual 89, 3) := by decide +kernel
theorem dX6_start_62 : decode cX6_start 62 = .ok (.aload_n 0, 1) := by decide +kernel
theorem dX6_start_63 : decode cX6_start 63 = .ok (.getfield 7, 3) := by decide +kernel
theorem dX6_start_66 : decode cX6_start 66 = .ok (.bipush 28, 2) := by decide +kernel
theorem dX6_start_68 : decode cX6_start 68 = .ok (.iaload, 1) := by decide +kernel
theorem dX6_start_69 : decode cX6_start 69 = .ok (.iadd, 1) := by decide +kernel
theorem dX6_start_70 : decode cX6_start 70 = .ok (.iconst 1, 1) := by decide +kernel
theorem dX6_start_71 : decode cX6_start 71 = .ok (.isub, 1) := by decide +kernel
theorem dX6_start_72 : decode cX6_start 72 = .ok (.aload_n 0, 1) := by decide +kernel
theorem dX6_start_73 : decode cX6_start 73 = .ok (.getfield 7, 3) := by decide +kernel
theorem dX6_start_76 : decode cX6_start 76 = .ok (.bipush 28, 2) := by decide +kernel
theorem dX6_start_78 : decode cX6_start 78 = .ok (.iaload, 1) := by decide +kernel
theorem dX6_start_79 : decode cX6_start 79 = .ok (.idiv, 1) := by decide +kernel
theorem dX6_start_80 : decode cX6_start 80 = .ok (.iadd, 1) := by decide +kernel
theorem dX6_start_81 : decode cX6_start 81 = .ok (.iastore, 1) := by decide +kernel
theorem dX6_start_82 : decode cX6_start 82 = .ok (.return_, 1) := by decide +kernel
theorem dX6_finish_0 : decode cX6_finish 0 = .ok (.aload_n 0, 1) := by decide +kernel
theorem dX6_finish_1 : decode cX6_finish 1 = .ok (.getfield 7, 3) := by decide +kernel
theorem dX6_finish_4 : decode cX6_finish 4 = .ok (.bipush 35, 2) := by decide +kernel
theorem dX6_finish_6 : decode cX6_finish 6 = .ok (.iaload, 1) := by decide +kernel
theorem dX6_finish_7 : decode cX6_finish 7 = .ok (.istore_n 1, 1) := by decide +kernel
theorem dX6_finish_8 : decode cX6_finish 8 = .ok (.iconst 0, 1) := by decide +kernel
theorem dX6_finish_9 : decode cX6_finish 9 = .ok (.istore_n 2, 1) := by decide +kernel
theorem dX6_finish_10 : decode cX6_finish 10 = .ok (.iload_n 2, 1) := by decide +kernel
theorem dX6_finish_11 : decode cX6_finish 11 = .ok (.iconst 4, 1) := by decide +kernel
theorem dX6_finish_12 : decode cX6_finish 12 = .ok (.if_icmp .ge 16, 3) := by decide +kernel
theorem dX6_finish_15 : decode cX6_finish 15 = .ok (.aload_n 0, 1) := by decide +kernel
theorem dX6_finish_16 : decode cX6_finish 16 = .ok (.getfield 27, 3) := by decide +kernel
theorem dX6_finish_19 : decode cX6_finish 19 = .ok (.iload_n 2, 1) := by decide +kernel
theorem dX6_finish_20 : decode cX6_finish 20 = .ok (.iconst 0, 1) := by decide +kernel
theorem dX6_finish_21 : decode cX6_finish 21 = .ok (.iastore, 1) := by decide +kernel
theorem dX6_finish_22 : decode cX6_finish 22 = .ok (.iinc 2 1, 3) := by decide +kernel
theorem dX6_finish_25 : decode cX6_finish 25 = .ok (.goto (-15), 3) := by decide +kernel
theorem dX6_finish_28 : decode cX6_finish 28 = .ok (.iconst 0, 1) := by decide +kernel
theorem dX6_finish_29 : decode cX6_finish 29 = .ok (.istore_n 2, 1) := by decide +kernel
theorem dX6_finish_30 : decode cX6_finish 30 = .ok (.iload_n 2, 1) := by decide +kernel
theorem dX6_finish_31 : decode cX6_finish 31 = .ok (.iconst 4, 1) := by decide +kernel
theorem dX6_finish_32 : decode cX6_finish 32 = .ok (.if_icmp .ge 101, 3) := by decide +kernel
theorem dX6_finish_35 : decode cX6_finish 35 = .ok (.aload_n 0, 1) := by decide +kernel
theorem dX6_finish_36 : decode cX6_finish 36 = .ok (.iload_n 1, 1) := by decide +kernel
theorem dX6_finish_37 : decode cX6_finish 37 = .ok (.iload_n 2, 1) := by decide +kernel
theorem dX6_finish_38 : decode cX6_finish 38 = .ok (.invokevirtual 86, 3) := by decide +kernel
theorem dX6_finish_41 : decode cX6_finish 41 = .ok (.istore_n 3, 1) := by decide +kernel
theorem dX6_finish_42 : decode cX6_finish 42 = .ok (.iload_n 3, 1) := by decide +kernel
theorem dX6_finish_43 : decode cX6_finish 43 = .ok (.istore 4, 2) := by decide +kernel
theorem dX6_finish_45 : decode cX6_finish 45 = .ok (.iload_n 2, 1) := by decide +kernel
theorem dX6_finish_46 : decode cX6_finish 46 = .ok (.iconst 1, 1) := by decide +kernel
theorem dX6_finish_47 : decode cX6_finish 47 = .ok (.iadd, 1) := by decide +kernel
theorem dX6_finish_48 : decode cX6_finish 48 = .ok (.istore 5, 2) := by decide +kernel
theorem dX6_finish_50 : decode cX6_finish 50 = .ok (.iload 5, 2) := by decide +kernel
theorem dX6_finish_52 : decode cX6_finish 52 = .ok (.iconst 4, 1) := by decide +kernel
theorem dX6_finish_53 : decode cX6_finish 53 = .ok (.if_icmp .ge 42, 3) := by decide +kernel
theorem dX6_finish_56 : decode cX6_finish 56 = .ok (.iload_n 3, 1) := by decide +kernel
theorem dX6_finish_57 : decode cX6_finish 57 = .ok (.aload_n 0, 1) := by decide +kernel
theorem dX6_finish_58 : decode cX6_finish 58 = .ok (.iload_n 2, 1) := by decide +kernel
theorem dX6_finish_59 : decode cX6_finish 59 = .ok (.iload 5, 2) := by decide +kernel
theorem dX6_finish_61 : decode cX6_finish 61 = .ok (.invokevirtual 38, 3) := by decide +kernel
theorem dX6_finish_64 : decode cX6_finish 64 = .ok (.imul, 1) := by decide +kernel
theorem dX6_finish_65 : decode cX6_finish 65 = .ok (.bipush 10, 2) := by decide +kernel
theorem dX6_finish_67 : decode cX6_finish 67 = .ok (.idiv, 1) := by decide +kernel
theorem dX6_finish_68 : decode cX6_finish 68 = .ok (.istore 6, 2) := by decide +kernel
theorem dX6_finish_70 : decode cX6_finish 70 = .ok (.aload_n 0, 1) := by decide +kernel
theorem dX6_finish_71 : decode cX6_finish 71 = .ok (.getfield 27, 3) := by decide +kernel
theorem dX6_finish_74 : decode cX6_finish 74 = .ok (.iload 5, 2) := by decide +kernel
theorem dX6_finish_76 : decode cX6_finish 76 = .ok (.dup2, 1) := by decide +kernel
theorem dX6_finish_77 : decode cX6_finish 77 = .ok (.iaload, 1) := by decide +kernel
theorem dX6_finish_78 : decode cX6_finish 78 = .ok (.iload 6, 2) := by decide +kernel
theorem dX6_finish_80 : decode cX6_finish 80 = .ok (.iadd, 1) := by decide +kernel
theorem dX6_finish_81 : decode cX6_finish 81 = .ok (.iastore, 1) := by decide +kernel
theorem dX6_finish_82 : decode cX6_finish 82 = .ok (.iload 4, 2) := by decide +kernel
theorem dX6_finish_84 : decode cX6_finish 84 = .ok (.iload 6, 2) := by decide +kernel
theorem dX6_finish_86 : decode cX6_finish 86 = .ok (.isub, 1) := by decide +kernel
theorem dX6_finish_87 : decode cX6_finish 87 = .ok (.istore 4, 2) := by decide +kernel
theorem dX6_finish_89 : decode cX6_finish 89 = .ok (.iinc 5 1, 3) := by decide +kernel
theorem dX6_finish_92 : decode cX6_finish 92 = .ok (.goto (-42), 3) := by decide +kernel
theorem dX6_finish_95 : decode cX6_finish 95 = .ok (.aload_n 0, 1) := by decide +kernel
theorem dX6_finish_96 : decode cX6_finish 96 = .ok (.getfield 27, 3) := by decide +kernel
theorem dX6_finish_99 : decode cX6_finish 99 = .ok (.iload_n 2, 1) := by decide +kernel
theorem dX6_finish_100 : decode cX6_finish 100 = .ok (.dup2, 1) := by decide +kernel
theorem dX6_finish_101 : decode cX6_finish 101 = .ok (.iaload, 1) := by decide +kernel
theorem dX6_finish_102 : decode cX6_finish 102 = .ok (.iload 4, 2) := by decide +kernel
theorem dX6_finish_104 : decode cX6_finish 104 = .ok (.iadd, 1) := by decide +kernel
theorem dX6_finish_105 : decode cX6_finish 105 = .ok (.iastore, 1) := by decide +kernel
theorem dX6_finish_106 : decode cX6_finish 106 = .ok (.aload_n 0, 1) := by decide +kernel
theorem dX6_finish_107 : decode cX6_finish 107 = .ok (.getfield 7, 3) := by decide +kernel
theorem dX6_finish_110 : decode cX6_finish 110 = .ok (.bipush 32, 2) := by decide +kernel
theorem dX6_finish_112 : decode cX6_finish 112 = .ok (.dup2, 1) := by decide +kernel
theorem dX6_finish_113 : decode cX6_finish 113 = .ok (.iaload, 1) := by decide +kernel
theorem dX6_finish_114 : decode cX6_finish 114 = .ok (.aload_n 0, 1) := by decide +kernel
theorem dX6_finish_115 : decode cX6_finish 115 = .ok (.getfield 7, 3) := by decide +kernel
theorem dX6_finish_118 : decode cX6_finish 118 = .ok (.bipush 20, 2) := by decide +kernel
theorem dX6_finish_120 : decode cX6_finish 120 = .ok (.iload_n 2, 1) := by decide +kernel
theorem dX6_finish_121 : decode cX6_finish 121 = .ok (.iadd, 1) := by decide +kernel
theorem dX6_finish_122 : decode cX6_finish 122 = .ok (.iaload, 1) := by decide +kernel
theorem dX6_finish_123 : decode cX6_finish 123 = .ok (.iload_n 3, 1) := by decide +kernel
theorem dX6_finish_124 : decode cX6_finish 124 = .ok (.imul, 1) := by decide +kernel
theorem dX6_finish_125 : decode cX6_finish 125 = .ok (.iadd, 1) := by decide +kernel
theorem dX6_finish_126 : decode cX6_finish 126 = .ok (.iastore, 1) := by decide +kernel
theorem dX6_finish_127 : decode cX6_finish 127 = .ok (.iinc 2 1, 3) := by decide +kernel
theorem dX6_finish_130 : decode cX6_finish 130 = .ok (.goto (-100), 3) := by decide +kernel
theorem dX6_finish_133 : decode cX6_finish 133 = .ok (.iconst 0, 1) := by decide +kernel
theorem dX6_finish_134 : decode cX6_finish 134 = .ok (.istore_n 2, 1) := by decide +kernel
theorem dX6_finish_135 : decode cX6_finish 135 = .ok (.iconst 0, 1) := by decide +kernel
theorem dX6_finish_136 : decode cX6_finish 136 = .ok (.istore_n 3, 1) := by decide +kernel
theorem dX6_finish_137 : decode cX6_finish 137 = .ok (.iload_n 3, 1) := by decide +kernel
theorem dX6_finish_138 : decode cX6_finish 138 = .ok (.iconst 4, 1) := by decide +kernel
theorem dX6_finish_139 : decode cX6_finish 139 = .ok (.if_icmp .ge 68, 3) := by decide +kernel
theorem dX6_finish_142 : decode cX6_finish 142 = .ok (.aload_n 0, 1) := by decide +kernel
theorem dX6_finish_143 : decode cX6_finish 143 = .ok (.getfield 27, 3) := by decide +kernel
theorem dX6_finish_146 : decode cX6_finish 146 = .ok (.iload_n 3, 1) := by decide +kernel
theorem dX6_finish_147 : decode cX6_finish 147 = .ok (.iaload, 1) := by decide +kernel
theorem dX6_finish_148 : decode cX6_finish 148 = .ok (.aload_n 0, 1) := by decide +kernel
theorem dX6_finish_149 : decode cX6_finish 149 = .ok (.getfield 7, 3) := by decide +kernel
theorem dX6_finish_152 : decode cX6_finish 152 = .ok (.bipush 16, 2) := by decide +kernel
theorem dX6_finish_154 : decode cX6_finish 154 = .ok (.iload_n 3, 1) := by decide +kernel
theorem dX6_finish_155 : decode cX6_finish 155 = .ok (.iadd, 1) := by decide +kernel
theorem dX6_finish_156 : decode cX6_finish 156 = .ok (.iaload, 1) := by decide +kernel
theorem dX6_finish_157 : decode cX6_finish 157 = .ok (.imul, 1) := by decide +kernel
theorem dX6_finish_158 : decode cX6_finish 158 = .ok (.bipush 10, 2) := by decide +kernel
theorem dX6_finish_160 : decode cX6_finish 160 = .ok (.idiv, 1) := by decide +kernel
theorem dX6_finish_161 : decode cX6_finish 161 = .ok (.istore 4, 2) := by decide +kernel
theorem dX6_finish_163 : decode cX6_finish 163 = .ok (.aload_n 0, 1) := by decide +kernel
theorem dX6_finish_164 : decode cX6_finish 164 = .ok (.getfield 7, 3) := by decide +kernel
theorem dX6_finish_167 : decode cX6_finish 167 = .ok (.bipush 37, 2) := by decide +kernel
theorem dX6_finish_169 : decode cX6_finish 169 = .ok (.iload_n 3, 1) := by decide +kernel
theorem dX6_finish_170 : decode cX6_finish 170 = .ok (.iadd, 1) := by decide +kernel
theorem dX6_finish_171 : decode cX6_finish 171 = .ok (.dup2, 1) := by decide +kernel
theorem dX6_finish_172 : decode cX6_finish 172 = .ok (.iaload, 1) := by decide +kernel
theorem dX6_finish_173 : decode cX6_finish 173 = .ok (.aload_n 0, 1) := by decide +kernel
theorem dX6_finish_174 : decode cX6_finish 174 = .ok (.getfield 27, 3) := by decide +kernel
theorem dX6_finish_177 : decode cX6_finish 177 = .ok (.iload_n 3, 1) := by decide +kernel
theorem dX6_finish_178 : decode cX6_finish 178 = .ok (.iaload, 1) := by decide +kernel
theorem dX6_finish_179 : decode cX6_finish 179 = .ok (.iload 4, 2) := by decide +kernel
theorem dX6_finish_181 : decode cX6_finish 181 = .ok (.isub, 1) := by decide +kernel
theorem dX6_finish_182 : decode cX6_finish 182 = .ok (.iadd, 1) := by decide +kernel
theorem dX6_finish_183 : decode cX6_finish 183 = .ok (.iastore, 1) := by decide +kernel
theorem dX6_finish_184 : decode cX6_finish 184 = .ok (.aload_n 0, 1) := by decide +kernel
theorem dX6_finish_185 : decode cX6_finish 185 = .ok (.getfield 7, 3) := by decide +kernel
theorem dX6_finish_188 : decode cX6_finish 188 = .ok (.iload_n 1, 1) := by decide +kernel
theorem dX6_finish_189 : decode cX6_finish 189 = .ok (.iload_n 3, 1) := by decide +kernel
theorem dX6_finish_190 : decode cX6_finish 190 = .ok (.invokestatic 83, 3) := by decide +kernel
theorem dX6_finish_193 : decode cX6_finish 193 = .ok (.iload 4, 2) := by decide +kernel
theorem dX6_finish_195 : decode cX6_finish 195 = .ok (.iastore, 1) := by decide +kernel
theorem dX6_finish_196 : decode cX6_finish 196 = .ok (.iload_n 2, 1) := by decide +kernel
theorem dX6_finish_197 : decode cX6_finish 197 = .ok (.iload 4, 2) := by decide +kernel
theorem dX6_finish_199 : decode cX6_finish 199 = .ok (.iadd, 1) := by decide +kernel
theorem dX6_finish_200 : decode cX6_finish 200 = .ok (.istore_n 2, 1) := by decide +kernel
theorem dX6_finish_201 : decode cX6_finish 201 = .ok (.iinc 3 1, 3) := by decide +kernel
theorem dX6_finish_204 : decode cX6_finish 204 = .ok (.goto (-67), 3) := by decide +kernel
theorem dX6_finish_207 : decode cX6_finish 207 = .ok (.aload_n 0, 1) := by decide +kernel
theorem dX6_finish_208 : decode cX6_finish 208 = .ok (.getfield 7, 3) := by decide +kernel
theorem dX6_finish_211 : decode cX6_finish 211 = .ok (.bipush 33, 2) := by decide +kernel
theorem dX6_finish_213 : decode cX6_finish 213 = .ok (.dup2, 1) := by decide +kernel
theorem dX6_finish_214 : decode cX6_finish 214 = .ok (.iaload, 1) := by decide +kernel
theorem dX6_finish_215 : decode cX6_finish 215 = .ok (.iload_n 2, 1) := by decide +kernel
theorem dX6_finish_216 : decode cX6_finish 216 = .ok (.iadd, 1) := by decide +kernel
theorem dX6_finish_217 : decode cX6_finish 217 = .ok (.iastore, 1) := by decide +kernel
theorem dX6_finish_218 : decode cX6_finish 218 = .ok (.aload_n 0, 1) := by decide +kernel
theorem dX6_finish_219 : decode cX6_finish 219 = .ok (.getfield 7, 3) := by decide +kernel
theorem dX6_finish_222 : decode cX6_finish 222 = .ok (.iload_n 1, 1) := by decide +kernel
theorem dX6_finish_223 : decode cX6_finish 223 = .ok (.bipush 7, 2) := by decide +kernel
theorem dX6_finish_225 : decode cX6_finish 225 = .ok (.invokestatic 83, 3) := by decide +kernel
theorem dX6_finish_228 : decode cX6_finish 228 = .ok (.dup2, 1) := by decide +kernel
theorem dX6_finish_229 : decode cX6_finish 229 = .ok (.iaload, 1) := by decide +kernel
theorem dX6_finish_230 : decode cX6_finish 230 = .ok (.iconst 1, 1) := by decide +kernel
theorem dX6_finish_231 : decode cX6_finish 231 = .ok (.iadd, 1) := by decide +kernel
theorem dX6_finish_232 : decode cX6_finish 232 = .ok (.iastore, 1) := by decide +kernel
theorem dX6_finish_233 : decode cX6_finish 233 = .ok (.aload_n 0, 1) := by decide +kernel
theorem dX6_finish_234 : decode cX6_finish 234 = .ok (.getfield 7, 3) := by decide +kernel
theorem dX6_finish_237 : decode cX6_finish 237 = .ok (.bipush 35, 2) := by decide +kernel
theorem dX6_finish_239 : decode cX6_finish 239 = .ok (.bipush (-7), 2) := by decide +kernel
theorem dX6_finish_241 : decode cX6_finish 241 = .ok (.iastore, 1) := by decide +kernel
theorem dX6_finish_242 : decode cX6_finish 242 = .ok (.iload_n 2, 1) := by decide +kernel
theorem dX6_finish_243 : decode cX6_finish 243 = .ok (.ifCond .ne 17, 3) := by decide +kernel
theorem dX6_finish_246 : decode cX6_finish 246 = .ok (.aload_n 0, 1) := by decide +kernel
theorem dX6_finish_247 : decode cX6_finish 247 = .ok (.getfield 7, 3) := by decide +kernel
theorem dX6_finish_250 : decode cX6_finish 250 = .ok (.iload_n 1, 1) := by decide +kernel
theorem dX6_finish_251 : decode cX6_finish 251 = .ok (.iconst 4, 1) := by decide +kernel
theorem dX6_finish_252 : decode cX6_finish 252 = .ok (.invokestatic 83, 3) := by decide +kernel
theorem dX6_finish_255 : decode cX6_finish 255 = .ok (.iconst 3, 1) := by decide +kernel
theorem dX6_finish_256 : decode cX6_finish 256 = .ok (.iastore, 1) := by decide +kernel
theorem dX6_finish_257 : decode cX6_finish 257 = .ok (.goto 8, 3) := by decide +kernel
theorem dX6_finish_260 : decode cX6_finish 260 = .ok (.aload_n 0, 1) := by decide +kernel
theorem dX6_finish_261 : decode cX6_finish 261 = .ok (.iload_n 1, 1) := by decide +kernel
theorem dX6_finish_262 : decode cX6_finish 262 = .ok (.invokevirtual 106, 3) := by decide +kernel
theorem dX6_finish_265 : decode cX6_finish 265 = .ok (.return_, 1) := by decide +kernel
theorem dX6_minute_0 : decode cX6_minute 0 = .ok (.aload_n 0, 1) := by decide +kernel
theorem dX6_minute_1 : decode cX6_minute 1 = .ok (.getfield 7, 3) := by decide +kernel
theorem dX6_minute_4 : decode cX6_minute 4 = .ok (.bipush 30, 2) := by decide +kernel
theorem dX6_minute_6 : decode cX6_minute 6 = .ok (.dup2, 1) := by decide +kernel
theorem dX6_minute_7 : decode cX6_minute 7 = .ok (.iaload, 1) := by decide +kernel
theorem dX6_minute_8 : decode cX6_minute 8 = .ok (.iconst 1, 1) := by decide +kernel
theorem dX6_minute_9 : decode cX6_minute 9 = .ok (.iadd, 1) := by decide +kernel
theorem dX6_minute_10 : decode cX6_minute 10 = .ok (.iastore, 1) := by decide +kernel
theorem dX6_minute_11 : decode cX6_minute 11 = .ok (.aload_n 0, 1) := by decide +kernel
theorem dX6_minute_12 : decode cX6_minute 12 = .ok (.getfield 7, 3) := by decide +kernel
theorem dX6_minute_15 : decode cX6_minute 15 = .ok (.bipush 35, 2) := by decide +kernel
theorem dX6_minute_17 : decode cX6_minute 17 = .ok (.iaload, 1) := by decide +kernel
theorem dX6_minute_18 : decode cX6_minute 18 = .ok (.ifCond .lt 24, 3) := by decide +kernel
theorem dX6_minute_21 : decode cX6_minute 21 = .ok (.aload_n 0, 1) := by decide +kernel
theorem dX6_minute_22 : decode cX6_minute 22 = .ok (.getfield 7, 3) := by decide +kernel
theorem dX6_minute_25 : decode cX6_minute 25 = .ok (.bipush 36, 2) := by decide +kernel
theorem dX6_minute_27 : decode cX6_minute 27 = .ok (.iaload, 1) := by decide +kernel
theorem dX6_minute_28 : decode cX6_minute 28 = .ok (.aload_n 0, 1) := by decide +kernel
theorem dX6_minute_29 : decode cX6_minute 29 = .ok (.getfield 7, 3) := by decide +kernel
theorem dX6_minute_32 : decode cX6_minute 32 = .ok (.bipush 30, 2) := by decide +kernel
theorem dX6_minute_34 : decode cX6_minute 34 = .ok (.iaload, 1) := by decide +kernel
theorem dX6_minute_35 : decode cX6_minute 35 = .ok (.if_icmp .ne 7, 3) := by decide +kernel
theorem dX6_minute_38 : decode cX6_minute 38 = .ok (.aload_n 0, 1) := by decide +kernel
theorem dX6_minute_39 : decode cX6_minute 39 = .ok (.invokevirtual 109, 3) := by decide +kernel
theorem dX6_minute_42 : decode cX6_minute 42 = .ok (.iconst 0, 1) := by decide +kernel
theorem dX6_minute_43 : decode cX6_minute 43 = .ok (.istore_n 1, 1) := by decide +kernel
theorem dX6_minute_44 : decode cX6_minute 44 = .ok (.iload_n 1, 1) := by decide +kernel
theorem dX6_minute_45 : decode cX6_minute 45 = .ok (.aload_n 0, 1) := by decide +kernel
theorem dX6_minute_46 : decode cX6_minute 46 = .ok (.getfield 7, 3) := by decide +kernel
theorem dX6_minute_49 : decode cX6_minute 49 = .ok (.bipush 31, 2) := by decide +kernel
theorem dX6_minute_51 : decode cX6_minute 51 = .ok (.iaload, 1) := by decide +kernel
theorem dX6_minute_52 : decode cX6_minute 52 = .ok (.if_icmp .ge 40, 3) := by decide +kernel
theorem dX6_minute_55 : decode cX6_minute 55 = .ok (.aload_n 0, 1) := by decide +kernel
theorem dX6_minute_56 : decode cX6_minute 56 = .ok (.iload_n 1, 1) := by decide +kernel
theorem dX6_minute_57 : decode cX6_minute 57 = .ok (.iconst 4, 1) := by decide +kernel
theorem dX6_minute_58 : decode cX6_minute 58 = .ok (.invokevirtual 86, 3) := by decide +kernel
theorem dX6_minute_61 : decode cX6_minute 61 = .ok (.ifCond .ne 25, 3) := by decide +kernel
theorem dX6_minute_64 : decode cX6_minute 64 = .ok (.aload_n 0, 1) := by decide +kernel
theorem dX6_minute_65 : decode cX6_minute 65 = .ok (.iload_n 1, 1) := by decide +kernel
theorem dX6_minute_66 : decode cX6_minute 66 = .ok (.bipush 6, 2) := by decide +kernel
theorem dX6_minute_68 : decode cX6_minute 68 = .ok (.invokevirtual 86, 3) := by decide +kernel
theorem dX6_minute_71 : decode cX6_minute 71 = .ok (.aload_n 0, 1) := by decide +kernel
theorem dX6_minute_72 : decode cX6_minute 72 = .ok (.getfield 7, 3) := by decide +kernel
theorem dX6_minute_75 : decode cX6_minute 75 = .ok (.bipush 30, 2) := by decide +kernel
theorem dX6_minute_77 : decode cX6_minute 77 = .ok (.iaload, 1) := by decide +kernel
theorem dX6_minute_78 : decode cX6_minute 78 = .ok (.if_icmp .ne 8, 3) := by decide +kernel
theorem dX6_minute_81 : decode cX6_minute 81 = .ok (.aload_n 0, 1) := by decide +kernel
theorem dX6_minute_82 : decode cX6_minute 82 = .ok (.iload_n 1, 1) := by decide +kernel
theorem dX6_minute_83 : decode cX6_minute 83 = .ok (.invokevirtual 106, 3) := by decide +kernel
theorem dX6_minute_86 : decode cX6_minute 86 = .ok (.iinc 1 1, 3) := by decide +kernel
theorem dX6_minute_89 : decode cX6_minute 89 = .ok (.goto (-45), 3) := by decide +kernel
theorem dX6_minute_92 : decode cX6_minute 92 = .ok (.aload_n 0, 1) := by decide +kernel
theorem dX6_minute_93 : decode cX6_minute 93 = .ok (.invokevirtual 112, 3) := by decide +kernel
theorem dX6_minute_96 : decode cX6_minute 96 = .ok (.return_, 1) := by decide +kernel
theorem dX6_isMass_0 : decode cX6_isMass 0 = .ok (.iload_n 0, 1) := by decide +kernel
theorem dX6_isMass_1 : decode cX6_isMass 1 = .ok (.iconst 0, 1) := by decide +kernel
theorem dX6_isMass_2 : decode cX6_isMass 2 = .ok (.sipush 200, 3) := by decide +kernel
theorem dX6_isMass_5 : decode cX6_isMass 5 = .ok (.invokestatic 30, 3) := by decide +kernel
theorem dX6_isMass_8 : decode cX6_isMass 8 = .ok (.ireturn, 1) := by decide +kernel
theorem dX6_areMasses_0 : decode cX6_areMasses 0 = .ok (.iload_n 0, 1) := by decide +kernel
theorem dX6_areMasses_1 : decode cX6_areMasses 1 = .ok (.invokestatic 115, 3) := by decide +kernel
theorem dX6_areMasses_4 : decode cX6_areMasses 4 = .ok (.ifCond .eq 38, 3) := by decide +kernel
theorem dX6_areMasses_7 : decode cX6_areMasses 7 = .ok (.iload_n 1, 1) := by decide +kernel
theorem dX6_areMasses_8 : decode cX6_areMasses 8 = .ok (.invokestatic 115, 3) := by decide +kernel
theorem dX6_areMasses_11 : decode cX6_areMasses 11 = .ok (.ifCond .eq 31, 3) := by decide +kernel
theorem dX6_areMasses_14 : decode cX6_areMasses 14 = .ok (.iload_n 2, 1) := by decide +kernel
theorem dX6_areMasses_15 : decode cX6_areMasses 15 = .ok (.invokestatic 115, 3) := by decide +kernel
theorem dX6_areMasses_18 : decode cX6_areMasses 18 = .ok (.ifCond .eq 24, 3) := by decide +kernel
theorem dX6_areMasses_21 : decode cX6_areMasses 21 = .ok (.iload_n 3, 1) := by decide +kernel
theorem dX6_areMasses_22 : decode cX6_areMasses 22 = .ok (.invokestatic 115, 3) := by decide +kernel
theorem dX6_areMasses_25 : decode cX6_areMasses 25 = .ok (.ifCond .eq 17, 3) := by decide +kernel
theorem dX6_areMasses_28 : decode cX6_areMasses 28 = .ok (.iload_n 0, 1) := by decide +kernel
theorem dX6_areMasses_29 : decode cX6_areMasses 29 = .ok (.iload_n 1, 1) := by decide +kernel
theorem dX6_areMasses_30 : decode cX6_areMasses 30 = .ok (.iadd, 1) := by decide +kernel
theorem dX6_areMasses_31 : decode cX6_areMasses 31 = .ok (.iload_n 2, 1) := by decide +kernel
theorem dX6_areMasses_32 : decode cX6_areMasses 32 = .ok (.iadd, 1) := by decide +kernel
theorem dX6_areMasses_33 : decode cX6_areMasses 33 = .ok (.iload_n 3, 1) := by decide +kernel
theorem dX6_areMasses_34 : decode cX6_areMasses 34 = .ok (.iadd, 1) := by decide +kernel
theorem dX6_areMasses_35 : decode cX6_areMasses 35 = .ok (.ifCond .le 7, 3) := by decide +kernel
theorem dX6_areMasses_38 : decode cX6_areMasses 38 = .ok (.iconst 1, 1) := by decide +kernel
theorem dX6_areMasses_39 : decode cX6_areMasses 39 = .ok (.goto 4, 3) := by decide +kernel
theorem dX6_areMasses_42 : decode cX6_areMasses 42 = .ok (.iconst 0, 1) := by decide +kernel
theorem dX6_areMasses_43 : decode cX6_areMasses 43 = .ok (.ireturn, 1) := by decide +kernel
theorem dX6_make_0 : decode cX6_make 0 = .ok (.aload_n 0, 1) := by decide +kernel
theorem dX6_make_1 : decode cX6_make 1 = .ok (.getfield 7, 3) := by decide +kernel
theorem dX6_make_4 : decode cX6_make 4 = .ok (.bipush 31, 2) := by decide +kernel
theorem dX6_make_6 : decode cX6_make 6 = .ok (.iaload, 1) := by decide +kernel
theorem dX6_make_7 : decode cX6_make 7 = .ok (.istore 5, 2) := by decide +kernel
theorem dX6_make_9 : decode cX6_make 9 = .ok (.aload_n 0, 1) := by decide +kernel
theorem dX6_make_10 : decode cX6_make 10 = .ok (.getfield 7, 3) := by decide +kernel
theorem dX6_make_13 : decode cX6_make 13 = .ok (.iload 5, 2) := by decide +kernel
theorem dX6_make_15 : decode cX6_make 15 = .ok (.iconst 0, 1) := by decide +kernel
theorem dX6_make_16 : decode cX6_make 16 = .ok (.invokestatic 83, 3) := by decide +kernel
theorem dX6_make_19 : decode cX6_make 19 = .ok (.iload_n 1, 1) := by decide +kernel
theorem dX6_make_20 : decode cX6_make 20 = .ok (.iastore, 1) := by decide +kernel
theorem dX6_make_21 : decode cX6_make 21 = .ok (.aload_n 0, 1) := by decide +kernel
theorem dX6_make_22 : decode cX6_make 22 = .ok (.getfield 7, 3) := by decide +kernel
theorem dX6_make_25 : decode cX6_make 25 = .ok (.iload 5, 2) := by decide +kernel
theorem dX6_make_27 : decode cX6_make 27 = .ok (.iconst 1, 1) := by decide +kernel
theorem dX6_make_28 : decode cX6_make 28 = .ok (.invokestatic 83, 3) := by decide +kernel
theorem dX6_make_31 : decode cX6_make 31 = .ok (.iload_n 2, 1) := by decide +kernel
theorem dX6_make_32 : decode cX6_make 32 = .ok (.iastore, 1) := by decide +kernel
theorem dX6_make_33 : decode cX6_make 33 = .ok (.aload_n 0, 1) := by decide +kernel
theorem dX6_make_34 : decode cX6_make 34 = .ok (.getfield 7, 3) := by decide +kernel
theorem dX6_make_37 : decode cX6_make 37 = .ok (.iload 5, 2) := by decide +kernel
theorem dX6_make_39 : decode cX6_make 39 = .ok (.iconst 2, 1) := by decide +kernel
theorem dX6_make_40 : decode cX6_make 40 = .ok (.invokestatic 83, 3) := by decide +kernel
theorem dX6_make_43 : decode cX6_make 43 = .ok (.iload_n 3, 1) := by decide +kernel
theorem dX6_make_44 : decode cX6_make 44 = .ok (.iastore, 1) := by decide +kernel
theorem dX6_make_45 : decode cX6_make 45 = .ok (.aload_n 0, 1) := by decide +kernel
theorem dX6_make_46 : decode cX6_make 46 = .ok (.getfield 7, 3) := by decide +kernel
theorem dX6_make_49 : decode cX6_make 49 = .ok (.iload 5, 2) := by decide +kernel
theorem dX6_make_51 : decode cX6_make 51 = .ok (.iconst 3, 1) := by decide +kernel
theorem dX6_make_52 : decode cX6_make 52 = .ok (.invokestatic 83, 3) := by decide +kernel
theorem dX6_make_55 : decode cX6_make 55 = .ok (.iload 4, 2) := by decide +kernel
theorem dX6_make_57 : decode cX6_make 57 = .ok (.iastore, 1) := by decide +kernel
theorem dX6_make_58 : decode cX6_make 58 = .ok (.aload_n 0, 1) := by decide +kernel
theorem dX6_make_59 : decode cX6_make 59 = .ok (.getfield 7, 3) := by decide +kernel
theorem dX6_make_62 : decode cX6_make 62 = .ok (.iload 5, 2) := by decide +kernel
theorem dX6_make_64 : decode cX6_make 64 = .ok (.iconst 4, 1) := by decide +kernel
theorem dX6_make_65 : decode cX6_make 65 = .ok (.invokestatic 83, 3) := by decide +kernel
theorem dX6_make_68 : decode cX6_make 68 = .ok (.iconst 0, 1) := by decide +kernel
theorem dX6_make_69 : decode cX6_make 69 = .ok (.iastore, 1) := by decide +kernel
theorem dX6_make_70 : decode cX6_make 70 = .ok (.aload_n 0, 1) := by decide +kernel
theorem dX6_make_71 : decode cX6_make 71 = .ok (.getfield 7, 3) := by decide +kernel
theorem dX6_make_74 : decode cX6_make 74 = .ok (.iload 5, 2) := by decide +kernel
theorem dX6_make_76 : decode cX6_make 76 = .ok (.bipush 6, 2) := by decide +kernel
theorem dX6_make_78 : decode cX6_make 78 = .ok (.invokestatic 83, 3) := by decide +kernel
theorem dX6_make_81 : decode cX6_make 81 = .ok (.bipush (-7), 2) := by decide +kernel
theorem dX6_make_83 : decode cX6_make 83 = .ok (.iastore, 1) := by decide +kernel
theorem dX6_make_84 : decode cX6_make 84 = .ok (.aload_n 0, 1) := by decide +kernel
theorem dX6_make_85 : decode cX6_make 85 = .ok (.getfield 7, 3) := by decide +kernel
theorem dX6_make_88 : decode cX6_make 88 = .ok (.iload 5, 2) := by decide +kernel
theorem dX6_make_90 : decode cX6_make 90 = .ok (.bipush 7, 2) := by decide +kernel
theorem dX6_make_92 : decode cX6_make 92 = .ok (.invokestatic 83, 3) := by decide +kernel
theorem dX6_make_95 : decode cX6_make 95 = .ok (.iconst 0, 1) := by decide +kernel
theorem dX6_make_96 : decode cX6_make 96 = .ok (.iastore, 1) := by decide +kernel
theorem dX6_make_97 : decode cX6_make 97 = .ok (.aload_n 0, 1) := by decide +kernel
theorem dX6_make_98 : decode cX6_make 98 = .ok (.getfield 7, 3) := by decide +kernel
theorem dX6_make_101 : decode cX6_make 101 = .ok (.bipush 31, 2) := by decide +kernel
theorem dX6_make_103 : decode cX6_make 103 = .ok (.dup2, 1) := by decide +kernel
theorem dX6_make_104 : decode cX6_make 104 = .ok (.iaload, 1) := by decide +kernel
theorem dX6_make_105 : decode cX6_make 105 = .ok (.iconst 1, 1) := by decide +kernel
theorem dX6_make_106 : decode cX6_make 106 = .ok (.iadd, 1) := by decide +kernel
theorem dX6_make_107 : decode cX6_make 107 = .ok (.iastore, 1) := by decide +kernel
theorem dX6_make_108 : decode cX6_make 108 = .ok (.iload 5, 2) := by decide +kernel
theorem dX6_make_110 : decode cX6_make 110 = .ok (.ireturn, 1) := by decide +kernel
theorem dX6_addLot_0 : decode cX6_addLot 0 = .ok (.iload_n 1, 1) := by decide +kernel
theorem dX6_addLot_1 : decode cX6_addLot 1 = .ok (.iload_n 2, 1) := by decide +kernel
theorem dX6_addLot_2 : decode cX6_addLot 2 = .ok (.iload_n 3, 1) := by decide +kernel
theorem dX6_addLot_3 : decode cX6_addLot 3 = .ok (.iload 4, 2) := by decide +kernel
theorem dX6_addLot_5 : decode cX6_addLot 5 = .ok (.invokestatic 118, 3) := by decide +kernel
theorem dX6_addLot_8 : decode cX6_addLot 8 = .ok (.ifCond .ne 6, 3) := by decide +kernel
theorem dX6_addLot_11 : decode cX6_addLot 11 = .ok (.bipush (-3), 2) := by decide +kernel
theorem dX6_addLot_13 : decode cX6_addLot 13 = .ok (.ireturn, 1) := by decide +kernel
theorem dX6_addLot_14 : decode cX6_addLot 14 = .ok (.aload_n 0, 1) := by decide +kernel
theorem dX6_addLot_15 : decode cX6_addLot 15 = .ok (.getfield 7, 3) := by decide +kernel
theorem dX6_addLot_18 : decode cX6_addLot 18 = .ok (.bipush 31, 2) := by decide +kernel
theorem dX6_addLot_20 : decode cX6_addLot 20 = .ok (.iaload, 1) := by decide +kernel
theorem dX6_addLot_21 : decode cX6_addLot 21 = .ok (.bipush 40, 2) := by decide +kernel
theorem dX6_addLot_23 : decode cX6_addLot 23 = .ok (.if_icmp .ne 6, 3) := by decide +kernel
theorem dX6_addLot_26 : decode cX6_addLot 26 = .ok (.bipush (-4), 2) := by decide +kernel
theorem dX6_addLot_28 : decode cX6_addLot 28 = .ok (.ireturn, 1) := by decide +kernel
theorem dX6_addLot_29 : decode cX6_addLot 29 = .ok (.aload_n 0, 1) := by decide +kernel
theorem dX6_addLot_30 : decode cX6_addLot 30 = .ok (.iload_n 1, 1) := by decide +kernel
theorem dX6_addLot_31 : decode cX6_addLot 31 = .ok (.iload_n 2, 1) := by decide +kernel
theorem dX6_addLot_32 : decode cX6_addLot 32 = .ok (.iload_n 3, 1) := by decide +kernel
theorem dX6_addLot_33 : decode cX6_addLot 33 = .ok (.iload 4, 2) := by decide +kernel
theorem dX6_addLot_35 : decode cX6_addLot 35 = .ok (.invokevirtual 122, 3) := by decide +kernel
theorem dX6_addLot_38 : decode cX6_addLot 38 = .ok (.istore 5, 2) := by decide +kernel
theorem dX6_addLot_40 : decode cX6_addLot 40 = .ok (.aload_n 0, 1) := by decide +kernel
theorem dX6_addLot_41 : decode cX6_addLot 41 = .ok (.iload 5, 2) := by decide +kernel
theorem dX6_addLot_43 : decode cX6_addLot 43 = .ok (.invokevirtual 106, 3) := by decide +kernel
theorem dX6_addLot_46 : decode cX6_addLot 46 = .ok (.aload_n 0, 1) := by decide +kernel
theorem dX6_addLot_47 : decode cX6_addLot 47 = .ok (.invokevirtual 112, 3) := by decide +kernel
theorem dX6_addLot_50 : decode cX6_addLot 50 = .ok (.iload 5, 2) := by decide +kernel
theorem dX6_addLot_52 : decode cX6_addLot 52 = .ok (.ireturn, 1) := by decide +kernel
theorem dX6_planLot_0 : decode cX6_planLot 0 = .ok (.iload_n 1, 1) := by decide +kernel
theorem dX6_planLot_1 : decode cX6_planLot 1 = .ok (.iconst 1, 1) := by decide +kernel
theorem dX6_planLot_2 : decode cX6_planLot 2 = .ok (.sipush 1000, 3) := by decide +kernel
theorem dX6_planLot_5 : decode cX6_planLot 5 = .ok (.invokestatic 30, 3) := by decide +kernel
theorem dX6_planLot_8 : decode cX6_planLot 8 = .ok (.ifCond .eq 15, 3) := by decide +kernel
theorem dX6_planLot_11 : decode cX6_planLot 11 = .ok (.iload_n 2, 1) := by decide +kernel
theorem dX6_planLot_12 : decode cX6_planLot 12 = .ok (.iload_n 3, 1) := by decide +kernel
theorem dX6_planLot_13 : decode cX6_planLot 13 = .ok (.iload 4, 2) := by decide +kernel
theorem dX6_planLot_15 : decode cX6_planLot 15 = .ok (.iload 5, 2) := by decide +kernel
theorem dX6_planLot_17 : decode cX6_planLot 17 = .ok (.invokestatic 118, 3) := by decide +kernel
theorem dX6_planLot_20 : decode cX6_planLot 20 = .ok (.ifCond .ne 6, 3) := by decide +kernel
theorem dX6_planLot_23 : decode cX6_planLot 23 = .ok (.bipush (-3), 2) := by decide +kernel
theorem dX6_planLot_25 : decode cX6_planLot 25 = .ok (.ireturn, 1) := by decide +kernel
theorem dX6_planLot_26 : decode cX6_planLot 26 = .ok (.aload_n 0, 1) := by decide +kernel
theorem dX6_planLot_27 : decode cX6_planLot 27 = .ok (.getfield 7, 3) := by decide +kernel
theorem dX6_planLot_30 : decode cX6_planLot 30 = .ok (.bipush 31, 2) := by decide +kernel
theorem dX6_planLot_32 : decode cX6_planLot 32 = .ok (.iaload, 1) := by decide +kernel
theorem dX6_planLot_33 : decode cX6_planLot 33 = .ok (.bipush 40, 2) := by decide +kernel
theorem dX6_planLot_35 : decode cX6_planLot 35 = .ok (.if_icmp .ne 6, 3) := by decide +kernel
theorem dX6_planLot_38 : decode cX6_planLot 38 = .ok (.bipush (-4), 2) := by decide +kernel
theorem dX6_planLot_40 : decode cX6_planLot 40 = .ok (.ireturn, 1) := by decide +kernel
theorem dX6_planLot_41 : decode cX6_planLot 41 = .ok (.aload_n 0, 1) := by decide +kernel
theorem dX6_planLot_42 : decode cX6_planLot 42 = .ok (.iload_n 2, 1) := by decide +kernel
theorem dX6_planLot_43 : decode cX6_planLot 43 = .ok (.iload_n 3, 1) := by decide +kernel
theorem dX6_planLot_44 : decode cX6_planLot 44 = .ok (.iload 4, 2) := by decide +kernel
theorem dX6_planLot_46 : decode cX6_planLot 46 = .ok (.iload 5, 2) := by decide +kernel
theorem dX6_planLot_48 : decode cX6_planLot 48 = .ok (.invokevirtual 122, 3) := by decide +kernel
theorem dX6_planLot_51 : decode cX6_planLot 51 = .ok (.istore 6, 2) := by decide +kernel
theorem dX6_planLot_53 : decode cX6_planLot 53 = .ok (.aload_n 0, 1) := by decide +kernel
theorem dX6_planLot_54 : decode cX6_planLot 54 = .ok (.getfield 7, 3) := by decide +kernel
theorem dX6_planLot_57 : decode cX6_planLot 57 = .ok (.iload 6, 2) := by decide +kernel
theorem dX6_planLot_59 : decode cX6_planLot 59 = .ok (.bipush 6, 2) := by decide +kernel
theorem dX6_planLot_61 : decode cX6_planLot 61 = .ok (.invokestatic 83, 3) := by decide +kernel
theorem dX6_planLot_64 : decode cX6_planLot 64 = .ok (.aload_n 0, 1) := by decide +kernel
theorem dX6_planLot_65 : decode cX6_planLot 65 = .ok (.getfield 7, 3) := by decide +kernel
theorem dX6_planLot_68 : decode cX6_planLot 68 = .ok (.bipush 30, 2) := by decide +kernel
theorem dX6_planLot_70 : decode cX6_planLot 70 = .ok (.iaload, 1) := by decide +kernel
theorem dX6_planLot_71 : decode cX6_planLot 71 = .ok (.iload_n 1, 1) := by decide +kernel
theorem dX6_planLot_72 : decode cX6_planLot 72 = .ok (.iadd, 1) := by decide +kernel
theorem dX6_planLot_73 : decode cX6_planLot 73 = .ok (.iastore, 1) := by decide +kernel
theorem dX6_planLot_74 : decode cX6_planLot 74 = .ok (.iload 6, 2) := by decide +kernel
theorem dX6_planLot_76 : decode cX6_planLot 76 = .ok (.ireturn, 1) := by decide +kernel
theorem dX6_advance_0 : decode cX6_advance 0 = .ok (.iload_n 1, 1) := by decide +kernel
theorem dX6_advance_1 : decode cX6_advance 1 = .ok (.iconst 1, 1) := by decide +kernel
theorem dX6_advance_2 : decode cX6_advance 2 = .ok (.sipush 500, 3) := by decide +kernel
theorem dX6_advance_5 : decode cX6_advance 5 = .ok (.invokestatic 30, 3) := by decide +kernel
theorem dX6_advance_8 : decode cX6_advance 8 = .ok (.ifCond .ne 6, 3) := by decide +kernel
theorem dX6_advance_11 : decode cX6_advance 11 = .ok (.bipush (-3), 2) := by decide +kernel
theorem dX6_advance_13 : decode cX6_advance 13 = .ok (.ireturn, 1) := by decide +kernel
theorem dX6_advance_14 : decode cX6_advance 14 = .ok (.iconst 0, 1) := by decide +kernel
theorem dX6_advance_15 : decode cX6_advance 15 = .ok (.istore_n 2, 1) := by decide +kernel
theorem dX6_advance_16 : decode cX6_advance 16 = .ok (.iload_n 2, 1) := by decide +kernel
theorem dX6_advance_17 : decode cX6_advance 17 = .ok (.iload_n 1, 1) := by decide +kernel
theorem dX6_advance_18 : decode cX6_advance 18 = .ok (.if_icmp .ge 13, 3) := by decide +kernel
theorem dX6_advance_21 : decode cX6_advance 21 = .ok (.aload_n 0, 1) := by decide +kernel
theorem dX6_advance_22 : decode cX6_advance 22 = .ok (.invokevirtual 126, 3) := by decide +kernel
theorem dX6_advance_25 : decode cX6_advance 25 = .ok (.iinc 2 1, 3) := by decide +kernel
theorem dX6_advance_28 : decode cX6_advance 28 = .ok (.goto (-12), 3) := by decide +kernel
theorem dX6_advance_31 : decode cX6_advance 31 = .ok (.aload_n 0, 1) := by decide +kernel
theorem dX6_advance_32 : decode cX6_advance 32 = .ok (.getfield 7, 3) := by decide +kernel
theorem dX6_advance_35 : decode cX6_advance 35 = .ok (.bipush 30, 2) := by decide +kernel
theorem dX6_advance_37 : decode cX6_advance 37 = .ok (.iaload, 1) := by decide +kernel
theorem dX6_advance_38 : decode cX6_advance 38 = .ok (.ireturn, 1) := by decide +kernel
theorem dX6_setRate_0 : decode cX6_setRate 0 = .ok (.iload_n 1, 1) := by decide +kernel
theorem dX6_setRate_1 : decode cX6_setRate 1 = .ok (.iconst 1, 1) := by decide +kernel
theorem dX6_setRate_2 : decode cX6_setRate 2 = .ok (.bipush 100, 2) := by decide +kernel
theorem dX6_setRate_4 : decode cX6_setRate 4 = .ok (.invokestatic 30, 3) := by decide +kernel
theorem dX6_setRate_7 : decode cX6_setRate 7 = .ok (.ifCond .eq 13, 3) := by decide +kernel
theorem dX6_setRate_10 : decode cX6_setRate 10 = .ok (.aload_n 0, 1) := by decide +kernel
theorem dX6_setRate_11 : decode cX6_setRate 11 = .ok (.bipush 28, 2) := by decide +kernel
theorem dX6_setRate_13 : decode cX6_setRate 13 = .ok (.iload_n 1, 1) := by decide +kernel
theorem dX6_setRate_14 : decode cX6_setRate 14 = .ok (.invokevirtual 42, 3) := by decide +kernel
theorem dX6_setRate_17 : decode cX6_setRate 17 = .ok (.goto 5, 3) := by decide +kernel
theorem dX6_setRate_20 : decode cX6_setRate 20 = .ok (.bipush (-3), 2) := by decide +kernel
theorem dX6_setRate_22 : decode cX6_setRate 22 = .ok (.ireturn, 1) := by decide +kernel
theorem dX6_setRule_0 : decode cX6_setRule 0 = .ok (.iload_n 1, 1) := by decide +kernel
theorem dX6_setRule_1 : decode cX6_setRule 1 = .ok (.iconst 0, 1) := by decide +kernel
theorem dX6_setRule_2 : decode cX6_setRule 2 = .ok (.iconst 2, 1) := by decide +kernel
theorem dX6_setRule_3 : decode cX6_setRule 3 = .ok (.invokestatic 30, 3) := by decide +kernel
theorem dX6_setRule_6 : decode cX6_setRule 6 = .ok (.ifCond .eq 13, 3) := by decide +kernel
theorem dX6_setRule_9 : decode cX6_setRule 9 = .ok (.aload_n 0, 1) := by decide +kernel
theorem dX6_setRule_10 : decode cX6_setRule 10 = .ok (.bipush 29, 2) := by decide +kernel
theorem dX6_setRule_12 : decode cX6_setRule 12 = .ok (.iload_n 1, 1) := by decide +kernel
theorem dX6_setRule_13 : decode cX6_setRule 13 = .ok (.invokevirtual 42, 3) := by decide +kernel
theorem dX6_setRule_16 : decode cX6_setRule 16 = .ok (.goto 5, 3) := by decide +kernel
theorem dX6_setRule_19 : decode cX6_setRule 19 = .ok (.bipush (-3), 2) := by decide +kernel
theorem dX6_setRule_21 : decode cX6_setRule 21 = .ok (.ireturn, 1) := by decide +kernel
theorem dX6_bin_0 : decode cX6_bin 0 = .ok (.iload_n 1, 1) := by decide +kernel
theorem dX6_bin_1 : decode cX6_bin 1 = .ok (.iconst (-1), 1) := by decide +kernel
theorem dX6_bin_2 : decode cX6_bin 2 = .ok (.if_icmp .eq 18, 3) := by decide +kernel
theorem dX6_bin_5 : decode cX6_bin 5 = .ok (.iload_n 1, 1) := by decide +kernel
theorem dX6_bin_6 : decode cX6_bin 6 = .ok (.ifCond .ge 8, 3) := by decide +kernel
theorem dX6_bin_9 : decode cX6_bin 9 = .ok (.bipush (-7), 2) := by decide +kernel
theorem dX6_bin_11 : decode cX6_bin 11 = .ok (.goto 8, 3) := by decide +kernel
theorem dX6_bin_14 : decode cX6_bin 14 = .ok (.aload_n 0, 1) := by decide +kernel
theorem dX6_bin_15 : decode cX6_bin 15 = .ok (.iload_n 1, 1) := by decide +kernel
theorem dX6_bin_16 : decode cX6_bin 16 = .ok (.invokevirtual 103, 3) := by decide +kernel
theorem dX6_bin_19 : decode cX6_bin 19 = .ok (.ireturn, 1) := by decide +kernel
theorem dX6_bin_20 : decode cX6_bin 20 = .ok (.iconst 0, 1) := by decide +kernel
theorem dX6_bin_21 : decode cX6_bin 21 = .ok (.istore_n 2, 1) := by decide +kernel
theorem dX6_bin_22 : decode cX6_bin 22 = .ok (.iconst 0, 1) := by decide +kernel
theorem dX6_bin_23 : decode cX6_bin 23 = .ok (.istore_n 3, 1) := by decide +kernel
theorem dX6_bin_24 : decode cX6_bin 24 = .ok (.iload_n 3, 1) := by decide +kernel
theorem dX6_bin_25 : decode cX6_bin 25 = .ok (.aload_n 0, 1) := by decide +kernel
theorem dX6_bin_26 : decode cX6_bin 26 = .ok (.getfield 7, 3) := by decide +kernel
theorem dX6_bin_29 : decode cX6_bin 29 = .ok (.bipush 31, 2) := by decide +kernel
theorem dX6_bin_31 : decode cX6_bin 31 = .ok (.iaload, 1) := by decide +kernel
theorem dX6_bin_32 : decode cX6_bin 32 = .ok (.if_icmp .ge 27, 3) := by decide +kernel
theorem dX6_bin_35 : decode cX6_bin 35 = .ok (.iload_n 2, 1) := by decide +kernel
theorem dX6_bin_36 : decode cX6_bin 36 = .ok (.aload_n 0, 1) := by decide +kernel
theorem dX6_bin_37 : decode cX6_bin 37 = .ok (.iload_n 3, 1) := by decide +kernel
theorem dX6_bin_38 : decode cX6_bin 38 = .ok (.iconst 4, 1) := by decide +kernel
theorem dX6_bin_39 : decode cX6_bin 39 = .ok (.invokevirtual 86, 3) := by decide +kernel
theorem dX6_bin_42 : decode cX6_bin 42 = .ok (.iconst 1, 1) := by decide +kernel
theorem dX6_bin_43 : decode cX6_bin 43 = .ok (.if_icmp .ne 7, 3) := by decide +kernel
theorem dX6_bin_46 : decode cX6_bin 46 = .ok (.iconst 1, 1) := by decide +kernel
theorem dX6_bin_47 : decode cX6_bin 47 = .ok (.goto 4, 3) := by decide +kernel
theorem dX6_bin_50 : decode cX6_bin 50 = .ok (.iconst 0, 1) := by decide +kernel
theorem dX6_bin_51 : decode cX6_bin 51 = .ok (.iadd, 1) := by decide +kernel
theorem dX6_bin_52 : decode cX6_bin 52 = .ok (.istore_n 2, 1) := by decide +kernel
theorem dX6_bin_53 : decode cX6_bin 53 = .ok (.iinc 3 1, 3) := by decide +kernel
theorem dX6_bin_56 : decode cX6_bin 56 = .ok (.goto (-32), 3) := by decide +kernel
theorem dX6_bin_59 : decode cX6_bin 59 = .ok (.iload_n 2, 1) := by decide +kernel
theorem dX6_bin_60 : decode cX6_bin 60 = .ok (.ireturn, 1) := by decide +kernel
theorem dX6_mill_0 : decode cX6_mill 0 = .ok (.iload_n 1, 1) := by decide +kernel
theorem dX6_mill_1 : decode cX6_mill 1 = .ok (.iconst 0, 1) := by decide +kernel
theorem dX6_mill_2 : decode cX6_mill 2 = .ok (.iconst 1, 1) := by decide +kernel
theorem dX6_mill_3 : decode cX6_mill 3 = .ok (.invokestatic 30, 3) := by decide +kernel
theorem dX6_mill_6 : decode cX6_mill 6 = .ok (.ifCond .ne 6, 3) := by decide +kernel
theorem dX6_mill_9 : decode cX6_mill 9 = .ok (.bipush (-3), 2) := by decide +kernel
theorem dX6_mill_11 : decode cX6_mill 11 = .ok (.ireturn, 1) := by decide +kernel
theorem dX6_mill_12 : decode cX6_mill 12 = .ok (.aload_n 0, 1) := by decide +kernel
theorem dX6_mill_13 : decode cX6_mill 13 = .ok (.getfield 7, 3) := by decide +kernel
theorem dX6_mill_16 : decode cX6_mill 16 = .ok (.bipush 35, 2) := by decide +kernel
theorem dX6_mill_18 : decode cX6_mill 18 = .ok (.iaload, 1) := by decide +kernel
theorem dX6_mill_19 : decode cX6_mill 19 = .ok (.ifCond .ge 8, 3) := by decide +kernel
theorem dX6_mill_22 : decode cX6_mill 22 = .ok (.bipush (-7), 2) := by decide +kernel
theorem dX6_mill_24 : decode cX6_mill 24 = .ok (.goto 32, 3) := by decide +kernel
theorem dX6_mill_27 : decode cX6_mill 27 = .ok (.iload_n 1, 1) := by decide +kernel
theorem dX6_mill_28 : decode cX6_mill 28 = .ok (.ifCond .ne 13, 3) := by decide +kernel
theorem dX6_mill_31 : decode cX6_mill 31 = .ok (.aload_n 0, 1) := by decide +kernel
theorem dX6_mill_32 : decode cX6_mill 32 = .ok (.getfield 7, 3) := by decide +kernel
theorem dX6_mill_35 : decode cX6_mill 35 = .ok (.bipush 35, 2) := by decide +kernel
theorem dX6_mill_37 : decode cX6_mill 37 = .ok (.iaload, 1) := by decide +kernel
theorem dX6_mill_38 : decode cX6_mill 38 = .ok (.goto 18, 3) := by decide +kernel
theorem dX6_mill_41 : decode cX6_mill 41 = .ok (.aload_n 0, 1) := by decide +kernel
theorem dX6_mill_42 : decode cX6_mill 42 = .ok (.getfield 7, 3) := by decide +kernel
theorem dX6_mill_45 : decode cX6_mill 45 = .ok (.bipush 36, 2) := by decide +kernel
theorem dX6_mill_47 : decode cX6_mill 47 = .ok (.iaload, 1) := by decide +kernel
theorem dX6_mill_48 : decode cX6_mill 48 = .ok (.aload_n 0, 1) := by decide +kernel
theorem dX6_mill_49 : decode cX6_mill 49 = .ok (.getfield 7, 3) := by decide +kernel
theorem dX6_mill_52 : decode cX6_mill 52 = .ok (.bipush 30, 2) := by decide +kernel
theorem dX6_mill_54 : decode cX6_mill 54 = .ok (.iaload, 1) := by decide +kernel
theorem dX6_mill_55 : decode cX6_mill 55 = .ok (.isub, 1) := by decide +kernel
theorem dX6_mill_56 : decode cX6_mill 56 = .ok (.ireturn, 1) := by decide +kernel
theorem dX6_isLot_0 : decode cX6_isLot 0 = .ok (.iload_n 1, 1) := by decide +kernel
theorem dX6_isLot_1 : decode cX6_isLot 1 = .ok (.iconst 0, 1) := by decide +kernel
theorem dX6_isLot_2 : decode cX6_isLot 2 = .ok (.aload_n 0, 1) := by decide +kernel
theorem dX6_isLot_3 : decode cX6_isLot 3 = .ok (.getfield 7, 3) := by decide +kernel
theorem dX6_isLot_6 : decode cX6_isLot 6 = .ok (.bipush 31, 2) := by decide +kernel
theorem dX6_isLot_8 : decode cX6_isLot 8 = .ok (.iaload, 1) := by decide +kernel
theorem dX6_isLot_9 : decode cX6_isLot 9 = .ok (.iconst 1, 1) := by decide +kernel
theorem dX6_isLot_10 : decode cX6_isLot 10 = .ok (.isub, 1) := by decide +kernel
theorem dX6_isLot_11 : decode cX6_isLot 11 = .ok (.invokestatic 30, 3) := by decide +kernel
theorem dX6_isLot_14 : decode cX6_isLot 14 = .ok (.ireturn, 1) := by decide +kernel
theorem dX6_state_0 : decode cX6_state 0 = .ok (.aload_n 0, 1) := by decide +kernel
theorem dX6_state_1 : decode cX6_state 1 = .ok (.iload_n 1, 1) := by decide +kernel
theorem dX6_state_2 : decode cX6_state 2 = .ok (.invokevirtual 129, 3) := by decide +kernel
theorem dX6_state_5 : decode cX6_state 5 = .ok (.ifCond .eq 12, 3) := by decide +kernel
theorem dX6_state_8 : decode cX6_state 8 = .ok (.aload_n 0, 1) := by decide +kernel
theorem dX6_state_9 : decode cX6_state 9 = .ok (.iload_n 1, 1) := by decide +kernel
theorem dX6_state_10 : decode cX6_state 10 = .ok (.iconst 4, 1) := by decide +kernel
theorem dX6_state_11 : decode cX6_state 11 = .ok (.invokevirtual 86, 3) := by decide +kernel
theorem dX6_state_14 : decode cX6_state 14 = .ok (.goto 5, 3) := by decide +kernel
theorem dX6_state_17 : decode cX6_state 17 = .ok (.bipush (-2), 2) := by decide +kernel
theorem dX6_state_19 : decode cX6_state 19 = .ok (.ireturn, 1) := by decide +kernel
theorem dX6_mass_0 : decode cX6_mass 0 = .ok (.aload_n 0, 1) := by decide +kernel
theorem dX6_mass_1 : decode cX6_mass 1 = .ok (.iload_n 1, 1) := by decide +kernel
theorem dX6_mass_2 : decode cX6_mass 2 = .ok (.invokevirtual 129, 3) := by decide +kernel
theorem dX6_mass_5 : decode cX6_mass 5 = .ok (.ifCond .ne 6, 3) := by decide +kernel
theorem dX6_mass_8 : decode cX6_mass 8 = .ok (.bipush (-2), 2) := by decide +kernel
theorem dX6_mass_10 : decode cX6_mass 10 = .ok (.ireturn, 1) := by decide +kernel
theorem dX6_mass_11 : decode cX6_mass 11 = .ok (.iload_n 2, 1) := by decide +kernel
theorem dX6_mass_12 : decode cX6_mass 12 = .ok (.iconst (-1), 1) := by decide +kernel
theorem dX6_mass_13 : decode cX6_mass 13 = .ok (.if_icmp .ne 11, 3) := by decide +kernel
theorem dX6_mass_16 : decode cX6_mass 16 = .ok (.aload_n 0, 1) := by decide +kernel
theorem dX6_mass_17 : decode cX6_mass 17 = .ok (.iload_n 1, 1) := by decide +kernel
theorem dX6_mass_18 : decode cX6_mass 18 = .ok (.invokevirtual 89, 3) := by decide +kernel
theorem dX6_mass_21 : decode cX6_mass 21 = .ok (.goto 20, 3) := by decide +kernel
theorem dX6_mass_24 : decode cX6_mass 24 = .ok (.iload_n 2, 1) := by decide +kernel
theorem dX6_mass_25 : decode cX6_mass 25 = .ok (.invokestatic 34, 3) := by decide +kernel
theorem dX6_mass_28 : decode cX6_mass 28 = .ok (.ifCond .eq 12, 3) := by decide +kernel
theorem dX6_mass_31 : decode cX6_mass 31 = .ok (.aload_n 0, 1) := by decide +kernel
theorem dX6_mass_32 : decode cX6_mass 32 = .ok (.iload_n 1, 1) := by decide +kernel
theorem dX6_mass_33 : decode cX6_mass 33 = .ok (.iload_n 2, 1) := by decide +kernel
theorem dX6_mass_34 : decode cX6_mass 34 = .ok (.invokevirtual 86, 3) := by decide +kernel
theorem dX6_mass_37 : decode cX6_mass 37 = .ok (.goto 4, 3) := by decide +kernel
theorem dX6_mass_40 : decode cX6_mass 40 = .ok (.iconst (-1), 1) := by decide +kernel
theorem dX6_mass_41 : decode cX6_mass 41 = .ok (.ireturn, 1) := by decide +kernel
theorem dX6_passes_0 : decode cX6_passes 0 = .ok (.aload_n 0, 1) := by decide +kernel
theorem dX6_passes_1 : decode cX6_passes 1 = .ok (.iload_n 1, 1) := by decide +kernel
theorem dX6_passes_2 : decode cX6_passes 2 = .ok (.invokevirtual 129, 3) := by decide +kernel
theorem dX6_passes_5 : decode cX6_passes 5 = .ok (.ifCond .eq 13, 3) := by decide +kernel
theorem dX6_passes_8 : decode cX6_passes 8 = .ok (.aload_n 0, 1) := by decide +kernel
theorem dX6_passes_9 : decode cX6_passes 9 = .ok (.iload_n 1, 1) := by decide +kernel
theorem dX6_passes_10 : decode cX6_passes 10 = .ok (.bipush 7, 2) := by decide +kernel
theorem dX6_passes_12 : decode cX6_passes 12 = .ok (.invokevirtual 86, 3) := by decide +kernel
theorem dX6_passes_15 : decode cX6_passes 15 = .ok (.goto 5, 3) := by decide +kernel
theorem dX6_passes_18 : decode cX6_passes 18 = .ok (.bipush (-2), 2) := by decide +kernel
theorem dX6_passes_20 : decode cX6_passes 20 = .ok (.ireturn, 1) := by decide +kernel
theorem dX6_produced_0 : decode cX6_produced 0 = .ok (.iload_n 1, 1) := by decide +kernel
theorem dX6_produced_1 : decode cX6_produced 1 = .ok (.iconst (-1), 1) := by decide +kernel
theorem dX6_produced_2 : decode cX6_produced 2 = .ok (.if_icmp .ne 35, 3) := by decide +kernel
theorem dX6_produced_5 : decode cX6_produced 5 = .ok (.aload_n 0, 1) := by decide +kernel
theorem dX6_produced_6 : decode cX6_produced 6 = .ok (.getfield 7, 3) := by decide +kernel
theorem dX6_produced_9 : decode cX6_produced 9 = .ok (.bipush 37, 2) := by decide +kernel
theorem dX6_produced_11 : decode cX6_produced 11 = .ok (.iaload, 1) := by decide +kernel
theorem dX6_produced_12 : decode cX6_produced 12 = .ok (.aload_n 0, 1) := by decide +kernel
theorem dX6_produced_13 : decode cX6_produced 13 = .ok (.getfield 7, 3) := by decide +kernel
theorem dX6_produced_16 : decode cX6_produced 16 = .ok (.bipush 38, 2) := by decide +kernel
theorem dX6_produced_18 : decode cX6_produced 18 = .ok (.iaload, 1) := by decide +kernel
theorem dX6_produced_19 : decode cX6_produced 19 = .ok (.iadd, 1) := by decide +kernel
theorem dX6_produced_20 : decode cX6_produced 20 = .ok (.aload_n 0, 1) := by decide +kernel
theorem dX6_produced_21 : decode cX6_produced 21 = .ok (.getfield 7, 3) := by decide +kernel
theorem dX6_produced_24 : decode cX6_produced 24 = .ok (.bipush 39, 2) := by decide +kernel
theorem dX6_produced_26 : decode cX6_produced 26 = .ok (.iaload, 1) := by decide +kernel
theorem dX6_produced_27 : decode cX6_produced 27 = .ok (.iadd, 1) := by decide +kernel
theorem dX6_produced_28 : decode cX6_produced 28 = .ok (.aload_n 0, 1) := by decide +kernel
theorem dX6_produced_29 : decode cX6_produced 29 = .ok (.getfield 7, 3) := by decide +kernel
theorem dX6_produced_32 : decode cX6_produced 32 = .ok (.bipush 40, 2) := by decide +kernel
theorem dX6_produced_34 : decode cX6_produced 34 = .ok (.iaload, 1) := by decide +kernel
theorem dX6_produced_35 : decode cX6_produced 35 = .ok (.iadd, 1) := by decide +kernel
theorem dX6_produced_36 : decode cX6_produced 36 = .ok (.ireturn, 1) := by decide +kernel
theorem dX6_produced_37 : decode cX6_produced 37 = .ok (.iload_n 1, 1) := by decide +kernel
theorem dX6_produced_38 : decode cX6_produced 38 = .ok (.invokestatic 34, 3) := by decide +kernel
theorem dX6_produced_41 : decode cX6_produced 41 = .ok (.ifCond .eq 15, 3) := by decide +kernel
theorem dX6_produced_44 : decode cX6_produced 44 = .ok (.aload_n 0, 1) := by decide +kernel
theorem dX6_produced_45 : decode cX6_produced 45 = .ok (.getfield 7, 3) := by decide +kernel
theorem dX6_produced_48 : decode cX6_produced 48 = .ok (.bipush 37, 2) := by decide +kernel
theorem dX6_produced_50 : decode cX6_produced 50 = .ok (.iload_n 1, 1) := by decide +kernel
theorem dX6_produced_51 : decode cX6_produced 51 = .ok (.iadd, 1) := by decide +kernel
theorem dX6_produced_52 : decode cX6_produced 52 = .ok (.iaload, 1) := by decide +kernel
theorem dX6_produced_53 : decode cX6_produced 53 = .ok (.goto 4, 3) := by decide +kernel
theorem dX6_produced_56 : decode cX6_produced 56 = .ok (.iconst (-1), 1) := by decide +kernel
theorem dX6_produced_57 : decode cX6_produced 57 = .ok (.ireturn, 1) := by decide +kernel
theorem dX6_total_0 : decode cX6_total 0 = .ok (.iload_n 1, 1) := by decide +kernel
theorem dX6_total_1 : decode cX6_total 1 = .ok (.iconst 0, 1) := by decide +kernel
theorem dX6_total_2 : decode cX6_total 2 = .ok (.iconst 3, 1) := by decide +kernel
theorem dX6_total_3 : decode cX6_total 3 = .ok (.invokestatic 30, 3) := by decide +kernel
theorem dX6_total_6 : decode cX6_total 6 = .ok (.ifCond .eq 15, 3) := by decide +kernel
theorem dX6_total_9 : decode cX6_total 9 = .ok (.aload_n 0, 1) := by decide +kernel
theorem dX6_total_10 : decode cX6_total 10 = .ok (.getfield 7, 3) := by decide +kernel
theorem dX6_total_13 : decode cX6_total 13 = .ok (.bipush 30, 2) := by decide +kernel
theorem dX6_total_15 : decode cX6_total 15 = .ok (.iload_n 1, 1) := by decide +kernel
theorem dX6_total_16 : decode cX6_total 16 = .ok (.iadd, 1) := by decide +kernel
theorem dX6_total_17 : decode cX6_total 17 = .ok (.iaload, 1) := by decide +kernel
theorem dX6_total_18 : decode cX6_total 18 = .ok (.goto 5, 3) := by decide +kernel
theorem dX6_total_21 : decode cX6_total 21 = .ok (.bipush (-3), 2) := by decide +kernel
theorem dX6_total_23 : decode cX6_total 23 = .ok (.ireturn, 1) := by decide +kernel
theorem dX6_save_0 : decode cX6_save 0 = .ok (.iload_n 1, 1) := by decide +kernel
theorem dX6_save_1 : decode cX6_save 1 = .ok (.iconst 0, 1) := by decide +kernel
theorem dX6_save_2 : decode cX6_save 2 = .ok (.iconst 1, 1) := by decide +kernel
theorem dX6_save_3 : decode cX6_save 3 = .ok (.invokestatic 30, 3) := by decide +kernel
theorem dX6_save_6 : decode cX6_save 6 = .ok (.ifCond .ne 6, 3) := by decide +kernel
theorem dX6_save_9 : decode cX6_save 9 = .ok (.bipush (-3), 2) := by decide +kernel
theorem dX6_save_11 : decode cX6_save 11 = .ok (.ireturn, 1) := by decide +kernel
theorem dX6_save_12 : decode cX6_save 12 = .ok (.iconst 0, 1) := by decide +kernel
theorem dX6_save_13 : decode cX6_save 13 = .ok (.istore_n 2, 1) := by decide +kernel
theorem dX6_save_14 : decode cX6_save 14 = .ok (.iload_n 2, 1) := by decide +kernel
theorem dX6_save_15 : decode cX6_save 15 = .ok (.sipush 361, 3) := by decide +kernel
theorem dX6_save_18 : decode cX6_save 18 = .ok (.if_icmp .ge 27, 3) := by decide +kernel
theorem dX6_save_21 : decode cX6_save 21 = .ok (.aload_n 0, 1) := by decide +kernel
theorem dX6_save_22 : decode cX6_save 22 = .ok (.getfield 13, 3) := by decide +kernel
theorem dX6_save_25 : decode cX6_save 25 = .ok (.sipush 361, 3) := by decide +kernel
theorem dX6_save_28 : decode cX6_save 28 = .ok (.iload_n 1, 1) := by decide +kernel
theorem dX6_save_29 : decode cX6_save 29 = .ok (.imul, 1) := by decide +kernel
theorem dX6_save_30 : decode cX6_save 30 = .ok (.iload_n 2, 1) := by decide +kernel
theorem dX6_save_31 : decode cX6_save 31 = .ok (.iadd, 1) := by decide +kernel
theorem dX6_save_32 : decode cX6_save 32 = .ok (.aload_n 0, 1) := by decide +kernel
theorem dX6_save_33 : decode cX6_save 33 = .ok (.getfield 7, 3) := by decide +kernel
theorem dX6_save_36 : decode cX6_save 36 = .ok (.iload_n 2, 1) := by decide +kernel
theorem dX6_save_37 : decode cX6_save 37 = .ok (.iaload, 1) := by decide +kernel
theorem dX6_save_38 : decode cX6_save 38 = .ok (.iastore, 1) := by decide +kernel
theorem dX6_save_39 : decode cX6_save 39 = .ok (.iinc 2 1, 3) := by decide +kernel
theorem dX6_save_42 : decode cX6_save 42 = .ok (.goto (-28), 3) := by decide +kernel
theorem dX6_save_45 : decode cX6_save 45 = .ok (.aload_n 0, 1) := by decide +kernel
theorem dX6_save_46 : decode cX6_save 46 = .ok (.getfield 16, 3) := by decide +kernel
theorem dX6_save_49 : decode cX6_save 49 = .ok (.iload_n 1, 1) := by decide +kernel
theorem dX6_save_50 : decode cX6_save 50 = .ok (.iconst 1, 1) := by decide +kernel
theorem dX6_save_51 : decode cX6_save 51 = .ok (.bastore, 1) := by decide +kernel
theorem dX6_save_52 : decode cX6_save 52 = .ok (.aload_n 0, 1) := by decide +kernel
theorem dX6_save_53 : decode cX6_save 53 = .ok (.getfield 7, 3) := by decide +kernel
theorem dX6_save_56 : decode cX6_save 56 = .ok (.bipush 30, 2) := by decide +kernel
theorem dX6_save_58 : decode cX6_save 58 = .ok (.iaload, 1) := by decide +kernel
theorem dX6_save_59 : decode cX6_save 59 = .ok (.ireturn, 1) := by decide +kernel
theorem dX6_restore_0 : decode cX6_restore 0 = .ok (.iload_n 1, 1) := by decide +kernel
theorem dX6_restore_1 : decode cX6_restore 1 = .ok (.iconst 0, 1) := by decide +kernel
theorem dX6_restore_2 : decode cX6_restore 2 = .ok (.iconst 1, 1) := by decide +kernel
theorem dX6_restore_3 : decode cX6_restore 3 = .ok (.invokestatic 30, 3) := by decide +kernel
theorem dX6_restore_6 : decode cX6_restore 6 = .ok (.ifCond .ne 6, 3) := by decide +kernel
theorem dX6_restore_9 : decode cX6_restore 9 = .ok (.bipush (-3), 2) := by decide +kernel
theorem dX6_restore_11 : decode cX6_restore 11 = .ok (.ireturn, 1) := by decide +kernel
theorem dX6_restore_12 : decode cX6_restore 12 = .ok (.aload_n 0, 1) := by decide +kernel
theorem dX6_restore_13 : decode cX6_restore 13 = .ok (.getfield 16, 3) := by decide +kernel
theorem dX6_restore_16 : decode cX6_restore 16 = .ok (.iload_n 1, 1) := by decide +kernel
theorem dX6_restore_17 : decode cX6_restore 17 = .ok (.baload, 1) := by decide +kernel
theorem dX6_restore_18 : decode cX6_restore 18 = .ok (.ifCond .ne 6, 3) := by decide +kernel
theorem dX6_restore_21 : decode cX6_restore 21 = .ok (.bipush (-6), 2) := by decide +kernel
theorem dX6_restore_23 : decode cX6_restore 23 = .ok (.ireturn, 1) := by decide +kernel
theorem dX6_restore_24 : decode cX6_restore 24 = .ok (.iconst 0, 1) := by decide +kernel
theorem dX6_restore_25 : decode cX6_restore 25 = .ok (.istore_n 2, 1) := by decide +kernel
theorem dX6_restore_26 : decode cX6_restore 26 = .ok (.iload_n 2, 1) := by decide +kernel
theorem dX6_restore_27 : decode cX6_restore 27 = .ok (.sipush 361, 3) := by decide +kernel
theorem dX6_restore_30 : decode cX6_restore 30 = .ok (.if_icmp .ge 27, 3) := by decide +kernel
theorem dX6_restore_33 : decode cX6_restore 33 = .ok (.aload_n 0, 1) := by decide +kernel
theorem dX6_restore_34 : decode cX6_restore 34 = .ok (.getfield 7, 3) := by decide +kernel
theorem dX6_restore_37 : decode cX6_restore 37 = .ok (.iload_n 2, 1) := by decide +kernel
theorem dX6_restore_38 : decode cX6_restore 38 = .ok (.aload_n 0, 1) := by decide +kernel
theorem dX6_restore_39 : decode cX6_restore 39 = .ok (.getfield 13, 3) := by decide +kernel
theorem dX6_restore_42 : decode cX6_restore 42 = .ok (.sipush 361, 3) := by decide +kernel
theorem dX6_restore_45 : decode cX6_restore 45 = .ok (.iload_n 1, 1) := by decide +kernel
theorem dX6_restore_46 : decode cX6_restore 46 = .ok (.imul, 1) := by decide +kernel
theorem dX6_restore_47 : decode cX6_restore 47 = .ok (.iload_n 2, 1) := by decide +kernel
theorem dX6_restore_48 : decode cX6_restore 48 = .ok (.iadd, 1) := by decide +kernel
theorem dX6_restore_49 : decode cX6_restore 49 = .ok (.iaload, 1) := by decide +kernel
theorem dX6_restore_50 : decode cX6_restore 50 = .ok (.iastore, 1) := by decide +kernel
theorem dX6_restore_51 : decode cX6_restore 51 = .ok (.iinc 2 1, 3) := by decide +kernel
theorem dX6_restore_54 : decode cX6_restore 54 = .ok (.goto (-28), 3) := by decide +kernel
theorem dX6_restore_57 : decode cX6_restore 57 = .ok (.aload_n 0, 1) := by decide +kernel
theorem dX6_restore_58 : decode cX6_restore 58 = .ok (.getfield 7, 3) := by decide +kernel
theorem dX6_restore_61 : decode cX6_restore 61 = .ok (.bipush 30, 2) := by decide +kernel
theorem dX6_restore_63 : decode cX6_restore 63 = .ok (.iaload, 1) := by decide +kernel
theorem dX6_restore_64 : decode cX6_restore 64 = .ok (.ireturn, 1) := by decide +kernel
theorem dL_law_0 : decode cL_law 0 = .ok (.new 7, 3) := by decide +kernel
theorem dL_law_3 : decode cL_law 3 = .ok (.dup, 1) := by decide +kernel
theorem dL_law_4 : decode cL_law 4 = .ok (.invokespecial 9, 3) := by decide +kernel
theorem dL_law_7 : decode cL_law 7 = .ok (.astore_n 1, 1) := by decide +kernel
theorem dL_law_8 : decode cL_law 8 = .ok (.new 10, 3) := by decide +kernel
theorem dL_law_11 : decode cL_law 11 = .ok (.dup, 1) := by decide +kernel
theorem dL_law_12 : decode cL_law 12 = .ok (.invokespecial 12, 3) := by decide +kernel
theorem dL_law_15 : decode cL_law 15 = .ok (.astore_n 2, 1) := by decide +kernel
theorem dL_law_16 : decode cL_law 16 = .ok (.iconst 0, 1) := by decide +kernel
theorem dL_law_17 : decode cL_law 17 = .ok (.istore_n 3, 1) := by decide +kernel
theorem dL_law_18 : decode cL_law 18 = .ok (.iload_n 3, 1) := by decide +kernel
theorem dL_law_19 : decode cL_law 19 = .ok (.aload_n 0, 1) := by decide +kernel
theorem dL_law_20 : decode cL_law 20 = .ok (.arraylength, 1) := by decide +kernel
theorem dL_law_21 : decode cL_law 21 = .ok (.bipush 6, 2) := by decide +kernel
theorem dL_law_23 : decode cL_law 23 = .ok (.isub, 1) := by decide +kernel
theorem dL_law_24 : decode cL_law 24 = .ok (.if_icmp .gt 890, 3) := by decide +kernel
theorem dL_law_27 : decode cL_law 27 = .ok (.aload_n 0, 1) := by decide +kernel
theorem dL_law_28 : decode cL_law 28 = .ok (.iload_n 3, 1) := by decide +kernel
theorem dL_law_29 : decode cL_law 29 = .ok (.iaload, 1) := by decide +kernel
theorem dL_law_30 : decode cL_law 30 = .ok (.bipush 31, 2) := by decide +kernel
theorem dL_law_32 : decode cL_law 32 = .ok (.iand, 1) := by decide +kernel
theorem dL_law_33 : decode cL_law 33 = .ok (.tableswitch 875 0 24 #[115, 168, 201, 234, 267, 300, 334, 368, 392, 416, 450, 473, 526, 589, 612, 635, 658, 681, 704, 727, 760, 783, 806, 829, 852], 115) := by decide +kernel
theorem dL_law_148 : decode cL_law 148 = .ok (.aload_n 1, 1) := by decide +kernel
theorem dL_law_149 : decode cL_law 149 = .ok (.aload_n 0, 1) := by decide +kernel
theorem dL_law_150 : decode cL_law 150 = .ok (.iload_n 3, 1) := by decide +kernel
theorem dL_law_151 : decode cL_law 151 = .ok (.iconst 1, 1) := by decide +kernel
theorem dL_law_152 : decode cL_law 152 = .ok (.iadd, 1) := by decide +kernel
theorem dL_law_153 : decode cL_law 153 = .ok (.iaload, 1) := by decide +kernel
theorem dL_law_154 : decode cL_law 154 = .ok (.aload_n 0, 1) := by decide +kernel
theorem dL_law_155 : decode cL_law 155 = .ok (.iload_n 3, 1) := by decide +kernel
theorem dL_law_156 : decode cL_law 156 = .ok (.iconst 2, 1) := by decide +kernel
theorem dL_law_157 : decode cL_law 157 = .ok (.iadd, 1) := by decide +kernel
theorem dL_law_158 : decode cL_law 158 = .ok (.iaload, 1) := by decide +kernel
theorem dL_law_159 : decode cL_law 159 = .ok (.aload_n 0, 1) := by decide +kernel
theorem dL_law_160 : decode cL_law 160 = .ok (.iload_n 3, 1) := by decide +kernel
theorem dL_law_161 : decode cL_law 161 = .ok (.iconst 3, 1) := by decide +kernel
theorem dL_law_162 : decode cL_law 162 = .ok (.iadd, 1) := by decide +kernel
theorem dL_law_163 : decode cL_law 163 = .ok (.iaload, 1) := by decide +kernel
theorem dL_law_164 : decode cL_law 164 = .ok (.aload_n 0, 1) := by decide +kernel
theorem dL_law_165 : decode cL_law 165 = .ok (.iload_n 3, 1) := by decide +kernel
theorem dL_law_166 : decode cL_law 166 = .ok (.iconst 4, 1) := by decide +kernel
theorem dL_law_167 : decode cL_law 167 = .ok (.iadd, 1) := by decide +kernel
theorem dL_law_168 : decode cL_law 168 = .ok (.iaload, 1) := by decide +kernel
theorem dL_law_169 : decode cL_law 169 = .ok (.invokevirtual 13, 3) := by decide +kernel
theorem dL_law_172 : decode cL_law 172 = .ok (.aload_n 2, 1) := by decide +kernel
theorem dL_law_173 : decode cL_law 173 = .ok (.aload_n 0, 1) := by decide +kernel
theorem dL_law_174 : decode cL_law 174 = .ok (.iload_n 3, 1) := by decide +kernel
theorem dL_law_175 : decode cL_law 175 = .ok (.iconst 1, 1) := by decide +kernel
theorem dL_law_176 : decode cL_law 176 = .ok (.iadd, 1) := by decide +kernel
theorem dL_law_177 : decode cL_law 177 = .ok (.iaload, 1) := by decide +kernel
theorem dL_law_178 : decode cL_law 178 = .ok (.aload_n 0, 1) := by decide +kernel
theorem dL_law_179 : decode cL_law 179 = .ok (.iload_n 3, 1) := by decide +kernel
theorem dL_law_180 : decode cL_law 180 = .ok (.iconst 2, 1) := by decide +kernel
theorem dL_law_181 : decode cL_law 181 = .ok (.iadd, 1) := by decide +kernel
theorem dL_law_182 : decode cL_law 182 = .ok (.iaload, 1) := by decide +kernel
theorem dL_law_183 : decode cL_law 183 = .ok (.aload_n 0, 1) := by decide +kernel
theorem dL_law_184 : decode cL_law 184 = .ok (.iload_n 3, 1) := by decide +kernel
theorem dL_law_185 : decode cL_law 185 = .ok (.iconst 3, 1) := by decide +kernel
theorem dL_law_186 : decode cL_law 186 = .ok (.iadd, 1) := by decide +kernel
theorem dL_law_187 : decode cL_law 187 = .ok (.iaload, 1) := by decide +kernel
theorem dL_law_188 : decode cL_law 188 = .ok (.aload_n 0, 1) := by decide +kernel
theorem dL_law_189 : decode cL_law 189 = .ok (.iload_n 3, 1) := by decide +kernel
theorem dL_law_190 : decode cL_law 190 = .ok (.iconst 4, 1) := by decide +kernel
theorem dL_law_191 : decode cL_law 191 = .ok (.iadd, 1) := by decide +kernel
theorem dL_law_192 : decode cL_law 192 = .ok (.iaload, 1) := by decide +kernel
theorem dL_law_193 : decode cL_law 193 = .ok (.invokevirtual 17, 3) := by decide +kernel
theorem dL_law_196 : decode cL_law 196 = .ok (.if_icmp .eq 712, 3) := by decide +kernel
theorem dL_law_199 : decode cL_law 199 = .ok (.iconst 0, 1) := by decide +kernel
theorem dL_law_200 : decode cL_law 200 = .ok (.ireturn, 1) := by decide +kernel
theorem dL_law_201 : decode cL_law 201 = .ok (.aload_n 1, 1) := by decide +kernel
theorem dL_law_202 : decode cL_law 202 = .ok (.aload_n 0, 1) := by decide +kernel
theorem dL_law_203 : decode cL_law 203 = .ok (.iload_n 3, 1) := by decide +kernel
theorem dL_law_204 : decode cL_law 204 = .ok (.iconst 1, 1) := by decide +kernel
theorem dL_law_205 : decode cL_law 205 = .ok (.iadd, 1) := by decide +kernel
theorem dL_law_206 : decode cL_law 206 = .ok (.iaload, 1) := by decide +kernel
theorem dL_law_207 : decode cL_law 207 = .ok (.aload_n 0, 1) := by decide +kernel
theorem dL_law_208 : decode cL_law 208 = .ok (.iload_n 3, 1) := by decide +kernel
theorem dL_law_209 : decode cL_law 209 = .ok (.iconst 2, 1) := by decide +kernel
theorem dL_law_210 : decode cL_law 210 = .ok (.iadd, 1) := by decide +kernel
theorem dL_law_211 : decode cL_law 211 = .ok (.iaload, 1) := by decide +kernel
theorem dL_law_212 : decode cL_law 212 = .ok (.invokevirtual 18, 3) := by decide +kernel
theorem dL_law_215 : decode cL_law 215 = .ok (.aload_n 2, 1) := by decide +kernel
theorem dL_law_216 : decode cL_law 216 = .ok (.aload_n 0, 1) := by decide +kernel
theorem dL_law_217 : decode cL_law 217 = .ok (.iload_n 3, 1) := by decide +kernel
theorem dL_law_218 : decode cL_law 218 = .ok (.iconst 1, 1) := by decide +kernel
theorem dL_law_219 : decode cL_law 219 = .ok (.iadd, 1) := by decide +kernel
theorem dL_law_220 : decode cL_law 220 = .ok (.iaload, 1) := by decide +kernel
theorem dL_law_221 : decode cL_law 221 = .ok (.aload_n 0, 1) := by decide +kernel
theorem dL_law_222 : decode cL_law 222 = .ok (.iload_n 3, 1) := by decide +kernel
theorem dL_law_223 : decode cL_law 223 = .ok (.iconst 2, 1) := by decide +kernel
theorem dL_law_224 : decode cL_law 224 = .ok (.iadd, 1) := by decide +kernel
theorem dL_law_225 : decode cL_law 225 = .ok (.iaload, 1) := by decide +kernel
theorem dL_law_226 : decode cL_law 226 = .ok (.invokevirtual 22, 3) := by decide +kernel
theorem dL_law_229 : decode cL_law 229 = .ok (.if_icmp .eq 679, 3) := by decide +kernel
theorem dL_law_232 : decode cL_law 232 = .ok (.iconst 0, 1) := by decide +kernel
theorem dL_law_233 : decode cL_law 233 = .ok (.ireturn, 1) := by decide +kernel
theorem dL_law_234 : decode cL_law 234 = .ok (.aload_n 1, 1) := by decide +kernel
theorem dL_law_235 : decode cL_law 235 = .ok (.aload_n 0, 1) := by decide +kernel
theorem dL_law_236 : decode cL_law 236 = .ok (.iload_n 3, 1) := by decide +kernel
theorem dL_law_237 : decode cL_law 237 = .ok (.iconst 1, 1) := by decide +kernel
theorem dL_law_238 : decode cL_law 238 = .ok (.iadd, 1) := by decide +kernel
theorem dL_law_239 : decode cL_law 239 = .ok (.iaload, 1) := by decide +kernel
theorem dL_law_240 : decode cL_law 240 = .ok (.aload_n 0, 1) := by decide +kernel
theorem dL_law_241 : decode cL_law 241 = .ok (.iload_n 3, 1) := by decide +kernel
theorem dL_law_242 : decode cL_law 242 = .ok (.iconst 2, 1) := by decide +kernel
theorem dL_law_243 : decode cL_law 243 = .ok (.iadd, 1) := by decide +kernel
theorem dL_law_244 : decode cL_law 244 = .ok (.iaload, 1) := by decide +kernel
theorem dL_law_245 : decode cL_law 245 = .ok (.invokevirtual 23, 3) := by decide +kernel
theorem dL_law_248 : decode cL_law 248 = .ok (.aload_n 2, 1) := by decide +kernel
theorem dL_law_249 : decode cL_law 249 = .ok (.aload_n 0, 1) := by decide +kernel
theorem dL_law_250 : decode cL_law 250 = .ok (.iload_n 3, 1) := by decide +kernel
theorem dL_law_251 : decode cL_law 251 = .ok (.iconst 1, 1) := by decide +kernel
theorem dL_law_252 : decode cL_law 252 = .ok (.iadd, 1) := by decide +kernel
theorem dL_law_253 : decode cL_law 253 = .ok (.iaload, 1) := by decide +kernel
theorem dL_law_254 : decode cL_law 254 = .ok (.aload_n 0, 1) := by decide +kernel
theorem dL_law_255 : decode cL_law 255 = .ok (.iload_n 3, 1) := by decide +kernel
theorem dL_law_256 : decode cL_law 256 = .ok (.iconst 2, 1) := by decide +kernel
theorem dL_law_257 : decode cL_law 257 = .ok (.iadd, 1) := by decide +kernel
theorem dL_law_258 : decode cL_law 258 = .ok (.iaload, 1) := by decide +kernel
theorem dL_law_259 : decode cL_law 259 = .ok (.invokevirtual 26, 3) := by decide +kernel
theorem dL_law_262 : decode cL_law 262 = .ok (.if_icmp .eq 646, 3) := by decide +kernel
theorem dL_law_265 : decode cL_law 265 = .ok (.iconst 0, 1) := by decide +kernel
theorem dL_law_266 : decode cL_law 266 = .ok (.ireturn, 1) := by decide +kernel
theorem dL_law_267 : decode cL_law 267 = .ok (.aload_n 1, 1) := by decide +kernel
theorem dL_law_268 : decode cL_law 268 = .ok (.aload_n 0, 1) := by decide +kernel
theorem dL_law_269 : decode cL_law 269 = .ok (.iload_n 3, 1) := by decide +kernel
theorem dL_law_270 : decode cL_law 270 = .ok (.iconst 1, 1) := by decide +kernel
theorem dL_law_271 : decode cL_law 271 = .ok (.iadd, 1) := by decide +kernel
theorem dL_law_272 : decode cL_law 272 = .ok (.iaload, 1) := by decide +kernel
theorem dL_law_273 : decode cL_law 273 = .ok (.aload_n 0, 1) := by decide +kernel
theorem dL_law_274 : decode cL_law 274 = .ok (.iload_n 3, 1) := by decide +kernel
theorem dL_law_275 : decode cL_law 275 = .ok (.iconst 2, 1) := by decide +kernel
theorem dL_law_276 : decode cL_law 276 = .ok (.iadd, 1) := by decide +kernel
theorem dL_law_277 : decode cL_law 277 = .ok (.iaload, 1) := by decide +kernel
theorem dL_law_278 : decode cL_law 278 = .ok (.invokevirtual 27, 3) := by decide +kernel
theorem dL_law_281 : decode cL_law 281 = .ok (.aload_n 2, 1) := by decide +kernel
theorem dL_law_282 : decode cL_law 282 = .ok (.aload_n 0, 1) := by decide +kernel
theorem dL_law_283 : decode cL_law 283 = .ok (.iload_n 3, 1) := by decide +kernel
theorem dL_law_284 : decode cL_law 284 = .ok (.iconst 1, 1) := by decide +kernel
theorem dL_law_285 : decode cL_law 285 = .ok (.iadd, 1) := by decide +kernel
theorem dL_law_286 : decode cL_law 286 = .ok (.iaload, 1) := by decide +kernel
theorem dL_law_287 : decode cL_law 287 = .ok (.aload_n 0, 1) := by decide +kernel
theorem dL_law_288 : decode cL_law 288 = .ok (.iload_n 3, 1) := by decide +kernel
theorem dL_law_289 : decode cL_law 289 = .ok (.iconst 2, 1) := by decide +kernel
theorem dL_law_290 : decode cL_law 290 = .ok (.iadd, 1) := by decide +kernel
theorem dL_law_291 : decode cL_law 291 = .ok (.iaload, 1) := by decide +kernel
theorem dL_law_292 : decode cL_law 292 = .ok (.invokevirtual 30, 3) := by decide +kernel
theorem dL_law_295 : decode cL_law 295 = .ok (.if_icmp .eq 613, 3) := by decide +kernel
theorem dL_law_298 : decode cL_law 298 = .ok (.iconst 0, 1) := by decide +kernel
theorem dL_law_299 : decode cL_law 299 = .ok (.ireturn, 1) := by decide +kernel
theorem dL_law_300 : decode cL_law 300 = .ok (.aload_n 1, 1) := by decide +kernel
theorem dL_law_301 : decode cL_law 301 = .ok (.aload_n 0, 1) := by decide +kernel
theorem dL_law_302 : decode cL_law 302 = .ok (.iload_n 3, 1) := by decide +kernel
theorem dL_law_303 : decode cL_law 303 = .ok (.iconst 1, 1) := by decide +kernel
theorem dL_law_304 : decode cL_law 304 = .ok (.iadd, 1) := by decide +kernel
theorem dL_law_305 : decode cL_law 305 = .ok (.iaload, 1) := by decide +kernel
theorem dL_law_306 : decode cL_law 306 = .ok (.aload_n 0, 1) := by decide +kernel
theorem dL_law_307 : decode cL_law 307 = .ok (.iload_n 3, 1) := by decide +kernel
theorem dL_law_308 : decode cL_law 308 = .ok (.iconst 2, 1) := by decide +kernel
theorem dL_law_309 : decode cL_law 309 = .ok (.iadd, 1) := by decide +kernel
theorem dL_law_310 : decode cL_law 310 = .ok (.iaload, 1) := by decide +kernel
theorem dL_law_311 : decode cL_law 311 = .ok (.invokevirtual 31, 3) := by decide +kernel
theorem dL_law_314 : decode cL_law 314 = .ok (.aload_n 2, 1) := by decide +kernel
theorem dL_law_315 : decode cL_law 315 = .ok (.aload_n 0, 1) := by decide +kernel
theorem dL_law_316 : decode cL_law 316 = .ok (.iload_n 3, 1) := by decide +kernel
theorem dL_law_317 : decode cL_law 317 = .ok (.iconst 1, 1) := by decide +kernel
theorem dL_law_318 : decode cL_law 318 = .ok (.iadd, 1) := by decide +kernel
theorem dL_law_319 : decode cL_law 319 = .ok (.iaload, 1) := by decide +kernel
theorem dL_law_320 : decode cL_law 320 = .ok (.aload_n 0, 1) := by decide +kernel
theorem dL_law_321 : decode cL_law 321 = .ok (.iload_n 3, 1) := by decide +kernel
theorem dL_law_322 : decode cL_law 322 = .ok (.iconst 2, 1) := by decide +kernel
theorem dL_law_323 : decode cL_law 323 = .ok (.iadd, 1) := by decide +kernel
theorem dL_law_324 : decode cL_law 324 = .ok (.iaload, 1) := by decide +kernel
theorem dL_law_325 : decode cL_law 325 = .ok (.invokevirtual 34, 3) := by decide +kernel
theorem dL_law_328 : decode cL_law 328 = .ok (.if_icmp .eq 580, 3) := by decide +kernel
theorem dL_law_331 : decode cL_law 331 = .ok (.iconst 0, 1) := by decide +kernel
theorem dL_law_332 : decode cL_law 332 = .ok (.ireturn, 1) := by decide +kernel
theorem dL_law_333 : decode cL_law 333 = .ok (.aload_n 1, 1) := by decide +kernel
theorem dL_law_334 : decode cL_law 334 = .ok (.aload_n 0, 1) := by decide +kernel
theorem dL_law_335 : decode cL_law 335 = .ok (.iload_n 3, 1) := by decide +kernel
theorem dL_law_336 : decode cL_law 336 = .ok (.iconst 1, 1) := by decide +kernel
theorem dL_law_337 : decode cL_law 337 = .ok (.iadd, 1) := by decide +kernel
theorem dL_law_338 : decode cL_law 338 = .ok (.iaload, 1) := by decide +kernel
theorem dL_law_339 : decode cL_law 339 = .ok (.aload_n 0, 1) := by decide +kernel
theorem dL_law_340 : decode cL_law 340 = .ok (.iload_n 3, 1) := by decide +kernel
theorem dL_law_341 : decode cL_law 341 = .ok (.iconst 2, 1) := by decide +kernel
theorem dL_law_342 : decode cL_law 342 = .ok (.iadd, 1) := by decide +kernel
theorem dL_law_343 : decode cL_law 343 = .ok (.iaload, 1) := by decide +kernel
theorem dL_law_344 : decode cL_law 344 = .ok (.invokevirtual 35, 3) := by decide +kernel
theorem dL_law_347 : decode cL_law 347 = .ok (.aload_n 2, 1) := by decide +kernel
theorem dL_law_348 : decode cL_law 348 = .ok (.aload_n 0, 1) := by decide +kernel
theorem dL_law_349 : decode cL_law 349 = .ok (.iload_n 3, 1) := by decide +kernel
theorem dL_law_350 : decode cL_law 350 = .ok (.iconst 1, 1) := by decide +kernel
theorem dL_law_351 : decode cL_law 351 = .ok (.iadd, 1) := by decide +kernel
theorem dL_law_352 : decode cL_law 352 = .ok (.iaload, 1) := by decide +kernel
theorem dL_law_353 : decode cL_law 353 = .ok (.aload_n 0, 1) := by decide +kernel
theorem dL_law_354 : decode cL_law 354 = .ok (.iload_n 3, 1) := by decide +kernel
theorem dL_law_355 : decode cL_law 355 = .ok (.iconst 2, 1) := by decide +kernel
theorem dL_law_356 : decode cL_law 356 = .ok (.iadd, 1) := by decide +kernel
theorem dL_law_357 : decode cL_law 357 = .ok (.iaload, 1) := by decide +kernel
theorem dL_law_358 : decode cL_law 358 = .ok (.invokevirtual 39, 3) := by decide +kernel
theorem dL_law_361 : decode cL_law 361 = .ok (.lcmp, 1) := by decide +kernel
theorem dL_law_362 : decode cL_law 362 = .ok (.ifCond .eq 546, 3) := by decide +kernel
theorem dL_law_365 : decode cL_law 365 = .ok (.iconst 0, 1) := by decide +kernel
theorem dL_law_366 : decode cL_law 366 = .ok (.ireturn, 1) := by decide +kernel
theorem dL_law_367 : decode cL_law 367 = .ok (.aload_n 1, 1) := by decide +kernel
theorem dL_law_368 : decode cL_law 368 = .ok (.aload_n 0, 1) := by decide +kernel
theorem dL_law_369 : decode cL_law 369 = .ok (.iload_n 3, 1) := by decide +kernel
theorem dL_law_370 : decode cL_law 370 = .ok (.iconst 1, 1) := by decide +kernel
theorem dL_law_371 : decode cL_law 371 = .ok (.iadd, 1) := by decide +kernel
theorem dL_law_372 : decode cL_law 372 = .ok (.iaload, 1) := by decide +kernel
theorem dL_law_373 : decode cL_law 373 = .ok (.aload_n 0, 1) := by decide +kernel
theorem dL_law_374 : decode cL_law 374 = .ok (.iload_n 3, 1) := by decide +kernel
theorem dL_law_375 : decode cL_law 375 = .ok (.iconst 2, 1) := by decide +kernel
theorem dL_law_376 : decode cL_law 376 = .ok (.iadd, 1) := by decide +kernel
theorem dL_law_377 : decode cL_law 377 = .ok (.iaload, 1) := by decide +kernel
theorem dL_law_378 : decode cL_law 378 = .ok (.invokevirtual 40, 3) := by decide +kernel
theorem dL_law_381 : decode cL_law 381 = .ok (.aload_n 2, 1) := by decide +kernel
theorem dL_law_382 : decode cL_law 382 = .ok (.aload_n 0, 1) := by decide +kernel
theorem dL_law_383 : decode cL_law 383 = .ok (.iload_n 3, 1) := by decide +kernel
theorem dL_law_384 : decode cL_law 384 = .ok (.iconst 1, 1) := by decide +kernel
theorem dL_law_385 : decode cL_law 385 = .ok (.iadd, 1) := by decide +kernel
theorem dL_law_386 : decode cL_law 386 = .ok (.iaload, 1) := by decide +kernel
theorem dL_law_387 : decode cL_law 387 = .ok (.aload_n 0, 1) := by decide +kernel
theorem dL_law_388 : decode cL_law 388 = .ok (.iload_n 3, 1) := by decide +kernel
theorem dL_law_389 : decode cL_law 389 = .ok (.iconst 2, 1) := by decide +kernel
theorem dL_law_390 : decode cL_law 390 = .ok (.iadd, 1) := by decide +kernel
theorem dL_law_391 : decode cL_law 391 = .ok (.iaload, 1) := by decide +kernel
theorem dL_law_392 : decode cL_law 392 = .ok (.invokevirtual 43, 3) := by decide +kernel
theorem dL_law_395 : decode cL_law 395 = .ok (.lcmp, 1) := by decide +kernel
theorem dL_law_396 : decode cL_law 396 = .ok (.ifCond .eq 512, 3) := by decide +kernel
theorem dL_law_399 : decode cL_law 399 = .ok (.iconst 0, 1) := by decide +kernel
theorem dL_law_400 : decode cL_law 400 = .ok (.ireturn, 1) := by decide +kernel
theorem dL_law_401 : decode cL_law 401 = .ok (.aload_n 1, 1) := by decide +kernel
theorem dL_law_402 : decode cL_law 402 = .ok (.aload_n 0, 1) := by decide +kernel
theorem dL_law_403 : decode cL_law 403 = .ok (.iload_n 3, 1) := by decide +kernel
theorem dL_law_404 : decode cL_law 404 = .ok (.iconst 1, 1) := by decide +kernel
theorem dL_law_405 : decode cL_law 405 = .ok (.iadd, 1) := by decide +kernel
theorem dL_law_406 : decode cL_law 406 = .ok (.iaload, 1) := by decide +kernel
theorem dL_law_407 : decode cL_law 407 = .ok (.invokevirtual 44, 3) := by decide +kernel
theorem dL_law_410 : decode cL_law 410 = .ok (.aload_n 2, 1) := by decide +kernel
theorem dL_law_411 : decode cL_law 411 = .ok (.aload_n 0, 1) := by decide +kernel
theorem dL_law_412 : decode cL_law 412 = .ok (.iload_n 3, 1) := by decide +kernel
theorem dL_law_413 : decode cL_law 413 = .ok (.iconst 1, 1) := by decide +kernel
theorem dL_law_414 : decode cL_law 414 = .ok (.iadd, 1) := by decide +kernel
theorem dL_law_415 : decode cL_law 415 = .ok (.iaload, 1) := by decide +kernel
theorem dL_law_416 : decode cL_law 416 = .ok (.invokevirtual 48, 3) := by decide +kernel
theorem dL_law_419 : decode cL_law 419 = .ok (.lcmp, 1) := by decide +kernel
theorem dL_law_420 : decode cL_law 420 = .ok (.ifCond .eq 488, 3) := by decide +kernel
theorem dL_law_423 : decode cL_law 423 = .ok (.iconst 0, 1) := by decide +kernel
theorem dL_law_424 : decode cL_law 424 = .ok (.ireturn, 1) := by decide +kernel
theorem dL_law_425 : decode cL_law 425 = .ok (.aload_n 1, 1) := by decide +kernel
theorem dL_law_426 : decode cL_law 426 = .ok (.aload_n 0, 1) := by decide +kernel
theorem dL_law_427 : decode cL_law 427 = .ok (.iload_n 3, 1) := by decide +kernel
theorem dL_law_428 : decode cL_law 428 = .ok (.iconst 1, 1) := by decide +kernel
theorem dL_law_429 : decode cL_law 429 = .ok (.iadd, 1) := by decide +kernel
theorem dL_law_430 : decode cL_law 430 = .ok (.iaload, 1) := by decide +kernel
theorem dL_law_431 : decode cL_law 431 = .ok (.invokevirtual 49, 3) := by decide +kernel
theorem dL_law_434 : decode cL_law 434 = .ok (.aload_n 2, 1) := by decide +kernel
theorem dL_law_435 : decode cL_law 435 = .ok (.aload_n 0, 1) := by decide +kernel
theorem dL_law_436 : decode cL_law 436 = .ok (.iload_n 3, 1) := by decide +kernel
theorem dL_law_437 : decode cL_law 437 = .ok (.iconst 1, 1) := by decide +kernel
theorem dL_law_438 : decode cL_law 438 = .ok (.iadd, 1) := by decide +kernel
theorem dL_law_439 : decode cL_law 439 = .ok (.iaload, 1) := by decide +kernel
theorem dL_law_440 : decode cL_law 440 = .ok (.invokevirtual 52, 3) := by decide +kernel
theorem dL_law_443 : decode cL_law 443 = .ok (.lcmp, 1) := by decide +kernel
theorem dL_law_444 : decode cL_law 444 = .ok (.ifCond .eq 464, 3) := by decide +kernel
theorem dL_law_447 : decode cL_law 447 = .ok (.iconst 0, 1) := by decide +kernel
theorem dL_law_448 : decode cL_law 448 = .ok (.ireturn, 1) := by decide +kernel
theorem dL_law_449 : decode cL_law 449 = .ok (.aload_n 1, 1) := by decide +kernel
theorem dL_law_450 : decode cL_law 450 = .ok (.aload_n 0, 1) := by decide +kernel
theorem dL_law_451 : decode cL_law 451 = .ok (.iload_n 3, 1) := by decide +kernel
theorem dL_law_452 : decode cL_law 452 = .ok (.iconst 1, 1) := by decide +kernel
theorem dL_law_453 : decode cL_law 453 = .ok (.iadd, 1) := by decide +kernel
theorem dL_law_454 : decode cL_law 454 = .ok (.iaload, 1) := by decide +kernel
theorem dL_law_455 : decode cL_law 455 = .ok (.aload_n 0, 1) := by decide +kernel
theorem dL_law_456 : decode cL_law 456 = .ok (.iload_n 3, 1) := by decide +kernel
theorem dL_law_457 : decode cL_law 457 = .ok (.iconst 2, 1) := by decide +kernel
theorem dL_law_458 : decode cL_law 458 = .ok (.iadd, 1) := by decide +kernel
theorem dL_law_459 : decode cL_law 459 = .ok (.iaload, 1) := by decide +kernel
theorem dL_law_460 : decode cL_law 460 = .ok (.invokevirtual 53, 3) := by decide +kernel
theorem dL_law_463 : decode cL_law 463 = .ok (.aload_n 2, 1) := by decide +kernel
theorem dL_law_464 : decode cL_law 464 = .ok (.aload_n 0, 1) := by decide +kernel
theorem dL_law_465 : decode cL_law 465 = .ok (.iload_n 3, 1) := by decide +kernel
theorem dL_law_466 : decode cL_law 466 = .ok (.iconst 1, 1) := by decide +kernel
theorem dL_law_467 : decode cL_law 467 = .ok (.iadd, 1) := by decide +kernel
theorem dL_law_468 : decode cL_law 468 = .ok (.iaload, 1) := by decide +kernel
theorem dL_law_469 : decode cL_law 469 = .ok (.aload_n 0, 1) := by decide +kernel
theorem dL_law_470 : decode cL_law 470 = .ok (.iload_n 3, 1) := by decide +kernel
theorem dL_law_471 : decode cL_law 471 = .ok (.iconst 2, 1) := by decide +kernel
theorem dL_law_472 : decode cL_law 472 = .ok (.iadd, 1) := by decide +kernel
theorem dL_law_473 : decode cL_law 473 = .ok (.iaload, 1) := by decide +kernel
theorem dL_law_474 : decode cL_law 474 = .ok (.invokevirtual 56, 3) := by decide +kernel
theorem dL_law_477 : decode cL_law 477 = .ok (.lcmp, 1) := by decide +kernel
theorem dL_law_478 : decode cL_law 478 = .ok (.ifCond .eq 430, 3) := by decide +kernel
theorem dL_law_481 : decode cL_law 481 = .ok (.iconst 0, 1) := by decide +kernel
theorem dL_law_482 : decode cL_law 482 = .ok (.ireturn, 1) := by decide +kernel
theorem dL_law_483 : decode cL_law 483 = .ok (.aload_n 1, 1) := by decide +kernel
theorem dL_law_484 : decode cL_law 484 = .ok (.aload_n 0, 1) := by decide +kernel
theorem dL_law_485 : decode cL_law 485 = .ok (.iload_n 3, 1) := by decide +kernel
theorem dL_law_486 : decode cL_law 486 = .ok (.iconst 1, 1) := by decide +kernel
theorem dL_law_487 : decode cL_law 487 = .ok (.iadd, 1) := by decide +kernel
theorem dL_law_488 : decode cL_law 488 = .ok (.iaload, 1) := by decide +kernel
theorem dL_law_489 : decode cL_law 489 = .ok (.invokevirtual 57, 3) := by decide +kernel
theorem dL_law_492 : decode cL_law 492 = .ok (.aload_n 2, 1) := by decide +kernel
theorem dL_law_493 : decode cL_law 493 = .ok (.aload_n 0, 1) := by decide +kernel
theorem dL_law_494 : decode cL_law 494 = .ok (.iload_n 3, 1) := by decide +kernel
theorem dL_law_495 : decode cL_law 495 = .ok (.iconst 1, 1) := by decide +kernel
theorem dL_law_496 : decode cL_law 496 = .ok (.iadd, 1) := by decide +kernel
theorem dL_law_497 : decode cL_law 497 = .ok (.iaload, 1) := by decide +kernel
theorem dL_law_498 : decode cL_law 498 = .ok (.invokevirtual 61, 3) := by decide +kernel
theorem dL_law_501 : decode cL_law 501 = .ok (.if_icmp .eq 407, 3) := by decide +kernel
theorem dL_law_504 : decode cL_law 504 = .ok (.iconst 0, 1) := by decide +kernel
theorem dL_law_505 : decode cL_law 505 = .ok (.ireturn, 1) := by decide +kernel
theorem dL_law_506 : decode cL_law 506 = .ok (.aload_n 1, 1) := by decide +kernel
theorem dL_law_507 : decode cL_law 507 = .ok (.aload_n 0, 1) := by decide +kernel
theorem dL_law_508 : decode cL_law 508 = .ok (.iload_n 3, 1) := by decide +kernel
theorem dL_law_509 : decode cL_law 509 = .ok (.iconst 1, 1) := by decide +kernel
theorem dL_law_510 : decode cL_law 510 = .ok (.iadd, 1) := by decide +kernel
theorem dL_law_511 : decode cL_law 511 = .ok (.iaload, 1) := by decide +kernel
theorem dL_law_512 : decode cL_law 512 = .ok (.aload_n 0, 1) := by decide +kernel
theorem dL_law_513 : decode cL_law 513 = .ok (.iload_n 3, 1) := by decide +kernel
theorem dL_law_514 : decode cL_law 514 = .ok (.iconst 2, 1) := by decide +kernel
theorem dL_law_515 : decode cL_law 515 = .ok (.iadd, 1) := by decide +kernel
theorem dL_law_516 : decode cL_law 516 = .ok (.iaload, 1) := by decide +kernel
theorem dL_law_517 : decode cL_law 517 = .ok (.aload_n 0, 1) := by decide +kernel
theorem dL_law_518 : decode cL_law 518 = .ok (.iload_n 3, 1) := by decide +kernel
theorem dL_law_519 : decode cL_law 519 = .ok (.iconst 3, 1) := by decide +kernel
theorem dL_law_520 : decode cL_law 520 = .ok (.iadd, 1) := by decide +kernel
theorem dL_law_521 : decode cL_law 521 = .ok (.iaload, 1) := by decide +kernel
theorem dL_law_522 : decode cL_law 522 = .ok (.aload_n 0, 1) := by decide +kernel
theorem dL_law_523 : decode cL_law 523 = .ok (.iload_n 3, 1) := by decide +kernel
theorem dL_law_524 : decode cL_law 524 = .ok (.iconst 4, 1) := by decide +kernel
theorem dL_law_525 : decode cL_law 525 = .ok (.iadd, 1) := by decide +kernel
theorem dL_law_526 : decode cL_law 526 = .ok (.iaload, 1) := by decide +kernel
theorem dL_law_527 : decode cL_law 527 = .ok (.invokevirtual 62, 3) := by decide +kernel
theorem dL_law_530 : decode cL_law 530 = .ok (.aload_n 2, 1) := by decide +kernel
theorem dL_law_531 : decode cL_law 531 = .ok (.aload_n 0, 1) := by decide +kernel
theorem dL_law_532 : decode cL_law 532 = .ok (.iload_n 3, 1) := by decide +kernel
theorem dL_law_533 : decode cL_law 533 = .ok (.iconst 1, 1) := by decide +kernel
theorem dL_law_534 : decode cL_law 534 = .ok (.iadd, 1) := by decide +kernel
theorem dL_law_535 : decode cL_law 535 = .ok (.iaload, 1) := by decide +kernel
theorem dL_law_536 : decode cL_law 536 = .ok (.aload_n 0, 1) := by decide +kernel
theorem dL_law_537 : decode cL_law 537 = .ok (.iload_n 3, 1) := by decide +kernel
theorem dL_law_538 : decode cL_law 538 = .ok (.iconst 2, 1) := by decide +kernel
theorem dL_law_539 : decode cL_law 539 = .ok (.iadd, 1) := by decide +kernel
theorem dL_law_540 : decode cL_law 540 = .ok (.iaload, 1) := by decide +kernel
theorem dL_law_541 : decode cL_law 541 = .ok (.aload_n 0, 1) := by decide +kernel
theorem dL_law_542 : decode cL_law 542 = .ok (.iload_n 3, 1) := by decide +kernel
theorem dL_law_543 : decode cL_law 543 = .ok (.iconst 3, 1) := by decide +kernel
theorem dL_law_544 : decode cL_law 544 = .ok (.iadd, 1) := by decide +kernel
theorem dL_law_545 : decode cL_law 545 = .ok (.iaload, 1) := by decide +kernel
theorem dL_law_546 : decode cL_law 546 = .ok (.aload_n 0, 1) := by decide +kernel
theorem dL_law_547 : decode cL_law 547 = .ok (.iload_n 3, 1) := by decide +kernel
theorem dL_law_548 : decode cL_law 548 = .ok (.iconst 4, 1) := by decide +kernel
theorem dL_law_549 : decode cL_law 549 = .ok (.iadd, 1) := by decide +kernel
theorem dL_law_550 : decode cL_law 550 = .ok (.iaload, 1) := by decide +kernel
theorem dL_law_551 : decode cL_law 551 = .ok (.invokevirtual 65, 3) := by decide +kernel
theorem dL_law_554 : decode cL_law 554 = .ok (.if_icmp .eq 354, 3) := by decide +kernel
theorem dL_law_557 : decode cL_law 557 = .ok (.iconst 0, 1) := by decide +kernel
theorem dL_law_558 : decode cL_law 558 = .ok (.ireturn, 1) := by decide +kernel
theorem dL_law_559 : decode cL_law 559 = .ok (.aload_n 1, 1) := by decide +kernel
theorem dL_law_560 : decode cL_law 560 = .ok (.aload_n 0, 1) := by decide +kernel
theorem dL_law_561 : decode cL_law 561 = .ok (.iload_n 3, 1) := by decide +kernel
theorem dL_law_562 : decode cL_law 562 = .ok (.iconst 1, 1) := by decide +kernel
theorem dL_law_563 : decode cL_law 563 = .ok (.iadd, 1) := by decide +kernel
theorem dL_law_564 : decode cL_law 564 = .ok (.iaload, 1) := by decide +kernel
theorem dL_law_565 : decode cL_law 565 = .ok (.aload_n 0, 1) := by decide +kernel
theorem dL_law_566 : decode cL_law 566 = .ok (.iload_n 3, 1) := by decide +kernel
theorem dL_law_567 : decode cL_law 567 = .ok (.iconst 2, 1) := by decide +kernel
theorem dL_law_568 : decode cL_law 568 = .ok (.iadd, 1) := by decide +kernel
theorem dL_law_569 : decode cL_law 569 = .ok (.iaload, 1) := by decide +kernel
theorem dL_law_570 : decode cL_law 570 = .ok (.aload_n 0, 1) := by decide +kernel
theorem dL_law_571 : decode cL_law 571 = .ok (.iload_n 3, 1) := by decide +kernel
theorem dL_law_572 : decode cL_law 572 = .ok (.iconst 3, 1) := by decide +kernel
theorem dL_law_573 : decode cL_law 573 = .ok (.iadd, 1) := by decide +kernel
theorem dL_law_574 : decode cL_law 574 = .ok (.iaload, 1) := by decide +kernel
theorem dL_law_575 : decode cL_law 575 = .ok (.aload_n 0, 1) := by decide +kernel
theorem dL_law_576 : decode cL_law 576 = .ok (.iload_n 3, 1) := by decide +kernel
theorem dL_law_577 : decode cL_law 577 = .ok (.iconst 4, 1) := by decide +kernel
theorem dL_law_578 : decode cL_law 578 = .ok (.iadd, 1) := by decide +kernel
theorem dL_law_579 : decode cL_law 579 = .ok (.iaload, 1) := by decide +kernel
theorem dL_law_580 : decode cL_law 580 = .ok (.aload_n 0, 1) := by decide +kernel
theorem dL_law_581 : decode cL_law 581 = .ok (.iload_n 3, 1) := by decide +kernel
theorem dL_law_582 : decode cL_law 582 = .ok (.iconst 5, 1) := by decide +kernel
theorem dL_law_583 : decode cL_law 583 = .ok (.iadd, 1) := by decide +kernel
theorem dL_law_584 : decode cL_law 584 = .ok (.iaload, 1) := by decide +kernel
theorem dL_law_585 : decode cL_law 585 = .ok (.invokevirtual 66, 3) := by decide +kernel
theorem dL_law_588 : decode cL_law 588 = .ok (.aload_n 2, 1) := by decide +kernel
theorem dL_law_589 : decode cL_law 589 = .ok (.aload_n 0, 1) := by decide +kernel
theorem dL_law_590 : decode cL_law 590 = .ok (.iload_n 3, 1) := by decide +kernel
theorem dL_law_591 : decode cL_law 591 = .ok (.iconst 1, 1) := by decide +kernel
theorem dL_law_592 : decode cL_law 592 = .ok (.iadd, 1) := by decide +kernel
theorem dL_law_593 : decode cL_law 593 = .ok (.iaload, 1) := by decide +kernel
theorem dL_law_594 : decode cL_law 594 = .ok (.aload_n 0, 1) := by decide +kernel
theorem dL_law_595 : decode cL_law 595 = .ok (.iload_n 3, 1) := by decide +kernel
theorem dL_law_596 : decode cL_law 596 = .ok (.iconst 2, 1) := by decide +kernel
theorem dL_law_597 : decode cL_law 597 = .ok (.iadd, 1) := by decide +kernel
theorem dL_law_598 : decode cL_law 598 = .ok (.iaload, 1) := by decide +kernel
theorem dL_law_599 : decode cL_law 599 = .ok (.aload_n 0, 1) := by decide +kernel
theorem dL_law_600 : decode cL_law 600 = .ok (.iload_n 3, 1) := by decide +kernel
theorem dL_law_601 : decode cL_law 601 = .ok (.iconst 3, 1) := by decide +kernel
theorem dL_law_602 : decode cL_law 602 = .ok (.iadd, 1) := by decide +kernel
theorem dL_law_603 : decode cL_law 603 = .ok (.iaload, 1) := by decide +kernel
theorem dL_law_604 : decode cL_law 604 = .ok (.aload_n 0, 1) := by decide +kernel
theorem dL_law_605 : decode cL_law 605 = .ok (.iload_n 3, 1) := by decide +kernel
theorem dL_law_606 : decode cL_law 606 = .ok (.iconst 4, 1) := by decide +kernel
theorem dL_law_607 : decode cL_law 607 = .ok (.iadd, 1) := by decide +kernel
theorem dL_law_608 : decode cL_law 608 = .ok (.iaload, 1) := by decide +kernel
theorem dL_law_609 : decode cL_law 609 = .ok (.aload_n 0, 1) := by decide +kernel
theorem dL_law_610 : decode cL_law 610 = .ok (.iload_n 3, 1) := by decide +kernel
theorem dL_law_611 : decode cL_law 611 = .ok (.iconst 5, 1) := by decide +kernel
theorem dL_law_612 : decode cL_law 612 = .ok (.iadd, 1) := by decide +kernel
theorem dL_law_613 : decode cL_law 613 = .ok (.iaload, 1) := by decide +kernel
theorem dL_law_614 : decode cL_law 614 = .ok (.invokevirtual 70, 3) := by decide +kernel
theorem dL_law_617 : decode cL_law 617 = .ok (.if_icmp .eq 291, 3) := by decide +kernel
theorem dL_law_620 : decode cL_law 620 = .ok (.iconst 0, 1) := by decide +kernel
theorem dL_law_621 : decode cL_law 621 = .ok (.ireturn, 1) := by decide +kernel
theorem dL_law_622 : decode cL_law 622 = .ok (.aload_n 1, 1) := by decide +kernel
theorem dL_law_623 : decode cL_law 623 = .ok (.aload_n 0, 1) := by decide +kernel
theorem dL_law_624 : decode cL_law 624 = .ok (.iload_n 3, 1) := by decide +kernel
theorem dL_law_625 : decode cL_law 625 = .ok (.iconst 1, 1) := by decide +kernel
theorem dL_law_626 : decode cL_law 626 = .ok (.iadd, 1) := by decide +kernel
theorem dL_law_627 : decode cL_law 627 = .ok (.iaload, 1) := by decide +kernel
theorem dL_law_628 : decode cL_law 628 = .ok (.invokevirtual 71, 3) := by decide +kernel
theorem dL_law_631 : decode cL_law 631 = .ok (.aload_n 2, 1) := by decide +kernel
theorem dL_law_632 : decode cL_law 632 = .ok (.aload_n 0, 1) := by decide +kernel
theorem dL_law_633 : decode cL_law 633 = .ok (.iload_n 3, 1) := by decide +kernel
theorem dL_law_634 : decode cL_law 634 = .ok (.iconst 1, 1) := by decide +kernel
theorem dL_law_635 : decode cL_law 635 = .ok (.iadd, 1) := by decide +kernel
theorem dL_law_636 : decode cL_law 636 = .ok (.iaload, 1) := by decide +kernel
theorem dL_law_637 : decode cL_law 637 = .ok (.invokevirtual 74, 3) := by decide +kernel
theorem dL_law_640 : decode cL_law 640 = .ok (.if_icmp .eq 268, 3) := by decide +kernel
theorem dL_law_643 : decode cL_law 643 = .ok (.iconst 0, 1) := by decide +kernel
theorem dL_law_644 : decode cL_law 644 = .ok (.ireturn, 1) := by decide +kernel
theorem dL_law_645 : decode cL_law 645 = .ok (.aload_n 1, 1) := by decide +kernel
theorem dL_law_646 : decode cL_law 646 = .ok (.aload_n 0, 1) := by decide +kernel
theorem dL_law_647 : decode cL_law 647 = .ok (.iload_n 3, 1) := by decide +kernel
theorem dL_law_648 : decode cL_law 648 = .ok (.iconst 1, 1) := by decide +kernel
theorem dL_law_649 : decode cL_law 649 = .ok (.iadd, 1) := by decide +kernel
theorem dL_law_650 : decode cL_law 650 = .ok (.iaload, 1) := by decide +kernel
theorem dL_law_651 : decode cL_law 651 = .ok (.invokevirtual 75, 3) := by decide +kernel
theorem dL_law_654 : decode cL_law 654 = .ok (.aload_n 2, 1) := by decide +kernel
theorem dL_law_655 : decode cL_law 655 = .ok (.aload_n 0, 1) := by decide +kernel
theorem dL_law_656 : decode cL_law 656 = .ok (.iload_n 3, 1) := by decide +kernel
theorem dL_law_657 : decode cL_law 657 = .ok (.iconst 1, 1) := by decide +kernel
theorem dL_law_658 : decode cL_law 658 = .ok (.iadd, 1) := by decide +kernel
theorem dL_law_659 : decode cL_law 659 = .ok (.iaload, 1) := by decide +kernel
theorem dL_law_660 : decode cL_law 660 = .ok (.invokevirtual 78, 3) := by decide +kernel
theorem dL_law_663 : decode cL_law 663 = .ok (.if_icmp .eq 245, 3) := by decide +kernel
theorem dL_law_666 : decode cL_law 666 = .ok (.iconst 0, 1) := by decide +kernel
theorem dL_law_667 : decode cL_law 667 = .ok (.ireturn, 1) := by decide +kernel
theorem dL_law_668 : decode cL_law 668 = .ok (.aload_n 1, 1) := by decide +kernel
theorem dL_law_669 : decode cL_law 669 = .ok (.aload_n 0, 1) := by decide +kernel
theorem dL_law_670 : decode cL_law 670 = .ok (.iload_n 3, 1) := by decide +kernel
theorem dL_law_671 : decode cL_law 671 = .ok (.iconst 1, 1) := by decide +kernel
theorem dL_law_672 : decode cL_law 672 = .ok (.iadd, 1) := by decide +kernel
theorem dL_law_673 : decode cL_law 673 = .ok (.iaload, 1) := by decide +kernel
theorem dL_law_674 : decode cL_law 674 = .ok (.invokevirtual 79, 3) := by decide +kernel
theorem dL_law_677 : decode cL_law 677 = .ok (.aload_n 2, 1) := by decide +kernel
theorem dL_law_678 : decode cL_law 678 = .ok (.aload_n 0, 1) := by decide +kernel
theorem dL_law_679 : decode cL_law 679 = .ok (.iload_n 3, 1) := by decide +kernel
theorem dL_law_680 : decode cL_law 680 = .ok (.iconst 1, 1) := by decide +kernel
theorem dL_law_681 : decode cL_law 681 = .ok (.iadd, 1) := by decide +kernel
theorem dL_law_682 : decode cL_law 682 = .ok (.iaload, 1) := by decide +kernel
theorem dL_law_683 : decode cL_law 683 = .ok (.invokevirtual 82, 3) := by decide +kernel
theorem dL_law_686 : decode cL_law 686 = .ok (.if_icmp .eq 222, 3) := by decide +kernel
theorem dL_law_689 : decode cL_law 689 = .ok (.iconst 0, 1) := by decide +kernel
theorem dL_law_690 : decode cL_law 690 = .ok (.ireturn, 1) := by decide +kernel
theorem dL_law_691 : decode cL_law 691 = .ok (.aload_n 1, 1) := by decide +kernel
theorem dL_law_692 : decode cL_law 692 = .ok (.aload_n 0, 1) := by decide +kernel
theorem dL_law_693 : decode cL_law 693 = .ok (.iload_n 3, 1) := by decide +kernel
theorem dL_law_694 : decode cL_law 694 = .ok (.iconst 1, 1) := by decide +kernel
theorem dL_law_695 : decode cL_law 695 = .ok (.iadd, 1) := by decide +kernel
theorem dL_law_696 : decode cL_law 696 = .ok (.iaload, 1) := by decide +kernel
theorem dL_law_697 : decode cL_law 697 = .ok (.invokevirtual 83, 3) := by decide +kernel
theorem dL_law_700 : decode cL_law 700 = .ok (.aload_n 2, 1) := by decide +kernel
theorem dL_law_701 : decode cL_law 701 = .ok (.aload_n 0, 1) := by decide +kernel
theorem dL_law_702 : decode cL_law 702 = .ok (.iload_n 3, 1) := by decide +kernel
theorem dL_law_703 : decode cL_law 703 = .ok (.iconst 1, 1) := by decide +kernel
theorem dL_law_704 : decode cL_law 704 = .ok (.iadd, 1) := by decide +kernel
theorem dL_law_705 : decode cL_law 705 = .ok (.iaload, 1) := by decide +kernel
theorem dL_law_706 : decode cL_law 706 = .ok (.invokevirtual 86, 3) := by decide +kernel
theorem dL_law_709 : decode cL_law 709 = .ok (.if_icmp .eq 199, 3) := by decide +kernel
theorem dL_law_712 : decode cL_law 712 = .ok (.iconst 0, 1) := by decide +kernel
theorem dL_law_713 : decode cL_law 713 = .ok (.ireturn, 1) := by decide +kernel
theorem dL_law_714 : decode cL_law 714 = .ok (.aload_n 1, 1) := by decide +kernel
theorem dL_law_715 : decode cL_law 715 = .ok (.aload_n 0, 1) := by decide +kernel
theorem dL_law_716 : decode cL_law 716 = .ok (.iload_n 3, 1) := by decide +kernel
theorem dL_law_717 : decode cL_law 717 = .ok (.iconst 1, 1) := by decide +kernel
theorem dL_law_718 : decode cL_law 718 = .ok (.iadd, 1) := by decide +kernel
theorem dL_law_719 : decode cL_law 719 = .ok (.iaload, 1) := by decide +kernel
theorem dL_law_720 : decode cL_law 720 = .ok (.invokevirtual 87, 3) := by decide +kernel
theorem dL_law_723 : decode cL_law 723 = .ok (.aload_n 2, 1) := by decide +kernel
theorem dL_law_724 : decode cL_law 724 = .ok (.aload_n 0, 1) := by decide +kernel
theorem dL_law_725 : decode cL_law 725 = .ok (.iload_n 3, 1) := by decide +kernel
theorem dL_law_726 : decode cL_law 726 = .ok (.iconst 1, 1) := by decide +kernel
theorem dL_law_727 : decode cL_law 727 = .ok (.iadd, 1) := by decide +kernel
theorem dL_law_728 : decode cL_law 728 = .ok (.iaload, 1) := by decide +kernel
theorem dL_law_729 : decode cL_law 729 = .ok (.invokevirtual 90, 3) := by decide +kernel
theorem dL_law_732 : decode cL_law 732 = .ok (.if_icmp .eq 176, 3) := by decide +kernel
theorem dL_law_735 : decode cL_law 735 = .ok (.iconst 0, 1) := by decide +kernel
theorem dL_law_736 : decode cL_law 736 = .ok (.ireturn, 1) := by decide +kernel
theorem dL_law_737 : decode cL_law 737 = .ok (.aload_n 1, 1) := by decide +kernel
theorem dL_law_738 : decode cL_law 738 = .ok (.aload_n 0, 1) := by decide +kernel
theorem dL_law_739 : decode cL_law 739 = .ok (.iload_n 3, 1) := by decide +kernel
theorem dL_law_740 : decode cL_law 740 = .ok (.iconst 1, 1) := by decide +kernel
theorem dL_law_741 : decode cL_law 741 = .ok (.iadd, 1) := by decide +kernel
theorem dL_law_742 : decode cL_law 742 = .ok (.iaload, 1) := by decide +kernel
theorem dL_law_743 : decode cL_law 743 = .ok (.invokevirtual 91, 3) := by decide +kernel
theorem dL_law_746 : decode cL_law 746 = .ok (.aload_n 2, 1) := by decide +kernel
theorem dL_law_747 : decode cL_law 747 = .ok (.aload_n 0, 1) := by decide +kernel
theorem dL_law_748 : decode cL_law 748 = .ok (.iload_n 3, 1) := by decide +kernel
theorem dL_law_749 : decode cL_law 749 = .ok (.iconst 1, 1) := by decide +kernel
theorem dL_law_750 : decode cL_law 750 = .ok (.iadd, 1) := by decide +kernel
theorem dL_law_751 : decode cL_law 751 = .ok (.iaload, 1) := by decide +kernel
theorem dL_law_752 : decode cL_law 752 = .ok (.invokevirtual 94, 3) := by decide +kernel
theorem dL_law_755 : decode cL_law 755 = .ok (.if_icmp .eq 153, 3) := by decide +kernel
theorem dL_law_758 : decode cL_law 758 = .ok (.iconst 0, 1) := by decide +kernel
theorem dL_law_759 : decode cL_law 759 = .ok (.ireturn, 1) := by decide +kernel
theorem dL_law_760 : decode cL_law 760 = .ok (.aload_n 1, 1) := by decide +kernel
theorem dL_law_761 : decode cL_law 761 = .ok (.aload_n 0, 1) := by decide +kernel
theorem dL_law_762 : decode cL_law 762 = .ok (.iload_n 3, 1) := by decide +kernel
theorem dL_law_763 : decode cL_law 763 = .ok (.iconst 1, 1) := by decide +kernel
theorem dL_law_764 : decode cL_law 764 = .ok (.iadd, 1) := by decide +kernel
theorem dL_law_765 : decode cL_law 765 = .ok (.iaload, 1) := by decide +kernel
theorem dL_law_766 : decode cL_law 766 = .ok (.aload_n 0, 1) := by decide +kernel
theorem dL_law_767 : decode cL_law 767 = .ok (.iload_n 3, 1) := by decide +kernel
theorem dL_law_768 : decode cL_law 768 = .ok (.iconst 2, 1) := by decide +kernel
theorem dL_law_769 : decode cL_law 769 = .ok (.iadd, 1) := by decide +kernel
theorem dL_law_770 : decode cL_law 770 = .ok (.iaload, 1) := by decide +kernel
theorem dL_law_771 : decode cL_law 771 = .ok (.invokevirtual 95, 3) := by decide +kernel
theorem dL_law_774 : decode cL_law 774 = .ok (.aload_n 2, 1) := by decide +kernel
theorem dL_law_775 : decode cL_law 775 = .ok (.aload_n 0, 1) := by decide +kernel
theorem dL_law_776 : decode cL_law 776 = .ok (.iload_n 3, 1) := by decide +kernel
theorem dL_law_777 : decode cL_law 777 = .ok (.iconst 1, 1) := by decide +kernel
theorem dL_law_778 : decode cL_law 778 = .ok (.iadd, 1) := by decide +kernel
theorem dL_law_779 : decode cL_law 779 = .ok (.iaload, 1) := by decide +kernel
theorem dL_law_780 : decode cL_law 780 = .ok (.aload_n 0, 1) := by decide +kernel
theorem dL_law_781 : decode cL_law 781 = .ok (.iload_n 3, 1) := by decide +kernel
theorem dL_law_782 : decode cL_law 782 = .ok (.iconst 2, 1) := by decide +kernel
theorem dL_law_783 : decode cL_law 783 = .ok (.iadd, 1) := by decide +kernel
theorem dL_law_784 : decode cL_law 784 = .ok (.iaload, 1) := by decide +kernel
theorem dL_law_785 : decode cL_law 785 = .ok (.invokevirtual 98, 3) := by decide +kernel
theorem dL_law_788 : decode cL_law 788 = .ok (.if_icmp .eq 120, 3) := by decide +kernel
theorem dL_law_791 : decode cL_law 791 = .ok (.iconst 0, 1) := by decide +kernel
theorem dL_law_792 : decode cL_law 792 = .ok (.ireturn, 1) := by decide +kernel
theorem dL_law_793 : decode cL_law 793 = .ok (.aload_n 1, 1) := by decide +kernel
theorem dL_law_794 : decode cL_law 794 = .ok (.aload_n 0, 1) := by decide +kernel
theorem dL_law_795 : decode cL_law 795 = .ok (.iload_n 3, 1) := by decide +kernel
theorem dL_law_796 : decode cL_law 796 = .ok (.iconst 1, 1) := by decide +kernel
theorem dL_law_797 : decode cL_law 797 = .ok (.iadd, 1) := by decide +kernel
theorem dL_law_798 : decode cL_law 798 = .ok (.iaload, 1) := by decide +kernel
theorem dL_law_799 : decode cL_law 799 = .ok (.invokevirtual 99, 3) := by decide +kernel
theorem dL_law_802 : decode cL_law 802 = .ok (.aload_n 2, 1) := by decide +kernel
theorem dL_law_803 : decode cL_law 803 = .ok (.aload_n 0, 1) := by decide +kernel
theorem dL_law_804 : decode cL_law 804 = .ok (.iload_n 3, 1) := by decide +kernel
theorem dL_law_805 : decode cL_law 805 = .ok (.iconst 1, 1) := by decide +kernel
theorem dL_law_806 : decode cL_law 806 = .ok (.iadd, 1) := by decide +kernel
theorem dL_law_807 : decode cL_law 807 = .ok (.iaload, 1) := by decide +kernel
theorem dL_law_808 : decode cL_law 808 = .ok (.invokevirtual 102, 3) := by decide +kernel
theorem dL_law_811 : decode cL_law 811 = .ok (.if_icmp .eq 97, 3) := by decide +kernel
theorem dL_law_814 : decode cL_law 814 = .ok (.iconst 0, 1) := by decide +kernel
theorem dL_law_815 : decode cL_law 815 = .ok (.ireturn, 1) := by decide +kernel
theorem dL_law_816 : decode cL_law 816 = .ok (.aload_n 1, 1) := by decide +kernel
theorem dL_law_817 : decode cL_law 817 = .ok (.aload_n 0, 1) := by decide +kernel
theorem dL_law_818 : decode cL_law 818 = .ok (.iload_n 3, 1) := by decide +kernel
theorem dL_law_819 : decode cL_law 819 = .ok (.iconst 1, 1) := by decide +kernel
theorem dL_law_820 : decode cL_law 820 = .ok (.iadd, 1) := by decide +kernel
theorem dL_law_821 : decode cL_law 821 = .ok (.iaload, 1) := by decide +kernel
theorem dL_law_822 : decode cL_law 822 = .ok (.invokevirtual 103, 3) := by decide +kernel
theorem dL_law_825 : decode cL_law 825 = .ok (.aload_n 2, 1) := by decide +kernel
theorem dL_law_826 : decode cL_law 826 = .ok (.aload_n 0, 1) := by decide +kernel
theorem dL_law_827 : decode cL_law 827 = .ok (.iload_n 3, 1) := by decide +kernel
theorem dL_law_828 : decode cL_law 828 = .ok (.iconst 1, 1) := by decide +kernel
theorem dL_law_829 : decode cL_law 829 = .ok (.iadd, 1) := by decide +kernel
theorem dL_law_830 : decode cL_law 830 = .ok (.iaload, 1) := by decide +kernel
theorem dL_law_831 : decode cL_law 831 = .ok (.invokevirtual 106, 3) := by decide +kernel
theorem dL_law_834 : decode cL_law 834 = .ok (.if_icmp .eq 74, 3) := by decide +kernel
theorem dL_law_837 : decode cL_law 837 = .ok (.iconst 0, 1) := by decide +kernel
theorem dL_law_838 : decode cL_law 838 = .ok (.ireturn, 1) := by decide +kernel
theorem dL_law_839 : decode cL_law 839 = .ok (.aload_n 1, 1) := by decide +kernel
theorem dL_law_840 : decode cL_law 840 = .ok (.aload_n 0, 1) := by decide +kernel
theorem dL_law_841 : decode cL_law 841 = .ok (.iload_n 3, 1) := by decide +kernel
theorem dL_law_842 : decode cL_law 842 = .ok (.iconst 1, 1) := by decide +kernel
theorem dL_law_843 : decode cL_law 843 = .ok (.iadd, 1) := by decide +kernel
theorem dL_law_844 : decode cL_law 844 = .ok (.iaload, 1) := by decide +kernel
theorem dL_law_845 : decode cL_law 845 = .ok (.invokevirtual 107, 3) := by decide +kernel
theorem dL_law_848 : decode cL_law 848 = .ok (.aload_n 2, 1) := by decide +kernel
theorem dL_law_849 : decode cL_law 849 = .ok (.aload_n 0, 1) := by decide +kernel
theorem dL_law_850 : decode cL_law 850 = .ok (.iload_n 3, 1) := by decide +kernel
theorem dL_law_851 : decode cL_law 851 = .ok (.iconst 1, 1) := by decide +kernel
theorem dL_law_852 : decode cL_law 852 = .ok (.iadd, 1) := by decide +kernel
theorem dL_law_853 : decode cL_law 853 = .ok (.iaload, 1) := by decide +kernel
theorem dL_law_854 : decode cL_law 854 = .ok (.invokevirtual 110, 3) := by decide +kernel
theorem dL_law_857 : decode cL_law 857 = .ok (.if_icmp .eq 51, 3) := by decide +kernel
theorem dL_law_860 : decode cL_law 860 = .ok (.iconst 0, 1) := by decide +kernel
theorem dL_law_861 : decode cL_law 861 = .ok (.ireturn, 1) := by decide +kernel
theorem dL_law_862 : decode cL_law 862 = .ok (.aload_n 1, 1) := by decide +kernel
theorem dL_law_863 : decode cL_law 863 = .ok (.aload_n 0, 1) := by decide +kernel
theorem dL_law_864 : decode cL_law 864 = .ok (.iload_n 3, 1) := by decide +kernel
theorem dL_law_865 : decode cL_law 865 = .ok (.iconst 1, 1) := by decide +kernel
theorem dL_law_866 : decode cL_law 866 = .ok (.iadd, 1) := by decide +kernel
theorem dL_law_867 : decode cL_law 867 = .ok (.iaload, 1) := by decide +kernel
theorem dL_law_868 : decode cL_law 868 = .ok (.invokevirtual 111, 3) := by decide +kernel
theorem dL_law_871 : decode cL_law 871 = .ok (.aload_n 2, 1) := by decide +kernel
theorem dL_law_872 : decode cL_law 872 = .ok (.aload_n 0, 1) := by decide +kernel
theorem dL_law_873 : decode cL_law 873 = .ok (.iload_n 3, 1) := by decide +kernel
theorem dL_law_874 : decode cL_law 874 = .ok (.iconst 1, 1) := by decide +kernel
theorem dL_law_875 : decode cL_law 875 = .ok (.iadd, 1) := by decide +kernel
theorem dL_law_876 : decode cL_law 876 = .ok (.iaload, 1) := by decide +kernel
theorem dL_law_877 : decode cL_law 877 = .ok (.invokevirtual 114, 3) := by decide +kernel
theorem dL_law_880 : decode cL_law 880 = .ok (.if_icmp .eq 28, 3) := by decide +kernel
theorem dL_law_883 : decode cL_law 883 = .ok (.iconst 0, 1) := by decide +kernel
theorem dL_law_884 : decode cL_law 884 = .ok (.ireturn, 1) := by decide +kernel
theorem dL_law_885 : decode cL_law 885 = .ok (.aload_n 1, 1) := by decide +kernel
theorem dL_law_886 : decode cL_law 886 = .ok (.aload_n 0, 1) := by decide +kernel
theorem dL_law_887 : decode cL_law 887 = .ok (.iload_n 3, 1) := by decide +kernel
theorem dL_law_888 : decode cL_law 888 = .ok (.iconst 1, 1) := by decide +kernel
theorem dL_law_889 : decode cL_law 889 = .ok (.iadd, 1) := by decide +kernel
theorem dL_law_890 : decode cL_law 890 = .ok (.iaload, 1) := by decide +kernel
theorem dL_law_891 : decode cL_law 891 = .ok (.invokevirtual 115, 3) := by decide +kernel
theorem dL_law_894 : decode cL_law 894 = .ok (.aload_n 2, 1) := by decide +kernel
theorem dL_law_895 : decode cL_law 895 = .ok (.aload_n 0, 1) := by decide +kernel
theorem dL_law_896 : decode cL_law 896 = .ok (.iload_n 3, 1) := by decide +kernel
theorem dL_law_897 : decode cL_law 897 = .ok (.iconst 1, 1) := by decide +kernel
theorem dL_law_898 : decode cL_law 898 = .ok (.iadd, 1) := by decide +kernel
theorem dL_law_899 : decode cL_law 899 = .ok (.iaload, 1) := by decide +kernel
theorem dL_law_900 : decode cL_law 900 = .ok (.invokevirtual 118, 3) := by decide +kernel
theorem dL_law_903 : decode cL_law 903 = .ok (.if_icmp .eq 5, 3) := by decide +kernel
theorem dL_law_906 : decode cL_law 906 = .ok (.iconst 0, 1) := by decide +kernel
theorem dL_law_907 : decode cL_law 907 = .ok (.ireturn, 1) := by decide +kernel
theorem dL_law_908 : decode cL_law 908 = .ok (.iinc 3 6, 3) := by decide +kernel
theorem dL_law_911 : decode cL_law 911 = .ok (.goto (-893), 3) := by decide +kernel
theorem dL_law_914 : decode cL_law 914 = .ok (.iconst 1, 1) := by decide +kernel
theorem dL_law_915 : decode cL_law 915 = .ok (.ireturn, 1) := by decide +kernel
