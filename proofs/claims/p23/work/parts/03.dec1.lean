theorem dX0_init_0 : decode cX0_init 0 = .ok (.aload_n 0, 1) := by decide +kernel
theorem dX0_init_1 : decode cX0_init 1 = .ok (.invokespecial 3, 3) := by decide +kernel
theorem dX0_init_4 : decode cX0_init 4 = .ok (.aload_n 0, 1) := by decide +kernel
theorem dX0_init_5 : decode cX0_init 5 = .ok (.new 9, 3) := by decide +kernel
theorem dX0_init_8 : decode cX0_init 8 = .ok (.dup, 1) := by decide +kernel
theorem dX0_init_9 : decode cX0_init 9 = .ok (.bipush 16, 2) := by decide +kernel
theorem dX0_init_11 : decode cX0_init 11 = .ok (.invokespecial 11, 3) := by decide +kernel
theorem dX0_init_14 : decode cX0_init 14 = .ok (.putfield 14, 3) := by decide +kernel
theorem dX0_init_17 : decode cX0_init 17 = .ok (.aload_n 0, 1) := by decide +kernel
theorem dX0_init_18 : decode cX0_init 18 = .ok (.bipush 7, 2) := by decide +kernel
theorem dX0_init_20 : decode cX0_init 20 = .ok (.newarray .int, 2) := by decide +kernel
theorem dX0_init_22 : decode cX0_init 22 = .ok (.putfield 20, 3) := by decide +kernel
theorem dX0_init_25 : decode cX0_init 25 = .ok (.return_, 1) := by decide +kernel
theorem dX0_laidHere_0 : decode cX0_laidHere 0 = .ok (.aload_n 0, 1) := by decide +kernel
theorem dX0_laidHere_1 : decode cX0_laidHere 1 = .ok (.getfield 24, 3) := by decide +kernel
theorem dX0_laidHere_4 : decode cX0_laidHere 4 = .ok (.ireturn, 1) := by decide +kernel
theorem dX0_madeHere_0 : decode cX0_madeHere 0 = .ok (.aload_n 0, 1) := by decide +kernel
theorem dX0_madeHere_1 : decode cX0_madeHere 1 = .ok (.getfield 28, 3) := by decide +kernel
theorem dX0_madeHere_4 : decode cX0_madeHere 4 = .ok (.ireturn, 1) := by decide +kernel
theorem dX0_madeInAll_0 : decode cX0_madeInAll 0 = .ok (.aload_n 0, 1) := by decide +kernel
theorem dX0_madeInAll_1 : decode cX0_madeInAll 1 = .ok (.getfield 31, 3) := by decide +kernel
theorem dX0_madeInAll_4 : decode cX0_madeInAll 4 = .ok (.ireturn, 1) := by decide +kernel
theorem dX0_idleInAll_0 : decode cX0_idleInAll 0 = .ok (.aload_n 0, 1) := by decide +kernel
theorem dX0_idleInAll_1 : decode cX0_idleInAll 1 = .ok (.getfield 34, 3) := by decide +kernel
theorem dX0_idleInAll_4 : decode cX0_idleInAll 4 = .ok (.aload_n 0, 1) := by decide +kernel
theorem dX0_idleInAll_5 : decode cX0_idleInAll 5 = .ok (.getfield 31, 3) := by decide +kernel
theorem dX0_idleInAll_8 : decode cX0_idleInAll 8 = .ok (.isub, 1) := by decide +kernel
theorem dX0_idleInAll_9 : decode cX0_idleInAll 9 = .ok (.ireturn, 1) := by decide +kernel
theorem dX0_mostStanding_0 : decode cX0_mostStanding 0 = .ok (.aload_n 0, 1) := by decide +kernel
theorem dX0_mostStanding_1 : decode cX0_mostStanding 1 = .ok (.getfield 37, 3) := by decide +kernel
theorem dX0_mostStanding_4 : decode cX0_mostStanding 4 = .ok (.ireturn, 1) := by decide +kernel
theorem dX0_goAll_0 : decode cX0_goAll 0 = .ok (.aload_n 0, 1) := by decide +kernel
theorem dX0_goAll_1 : decode cX0_goAll 1 = .ok (.iconst 0, 1) := by decide +kernel
theorem dX0_goAll_2 : decode cX0_goAll 2 = .ok (.putfield 34, 3) := by decide +kernel
theorem dX0_goAll_5 : decode cX0_goAll 5 = .ok (.aload_n 0, 1) := by decide +kernel
theorem dX0_goAll_6 : decode cX0_goAll 6 = .ok (.iconst 0, 1) := by decide +kernel
theorem dX0_goAll_7 : decode cX0_goAll 7 = .ok (.putfield 31, 3) := by decide +kernel
theorem dX0_goAll_10 : decode cX0_goAll 10 = .ok (.aload_n 0, 1) := by decide +kernel
theorem dX0_goAll_11 : decode cX0_goAll 11 = .ok (.iconst 0, 1) := by decide +kernel
theorem dX0_goAll_12 : decode cX0_goAll 12 = .ok (.putfield 37, 3) := by decide +kernel
theorem dX0_goAll_15 : decode cX0_goAll 15 = .ok (.iconst 0, 1) := by decide +kernel
theorem dX0_goAll_16 : decode cX0_goAll 16 = .ok (.istore_n 2, 1) := by decide +kernel
theorem dX0_goAll_17 : decode cX0_goAll 17 = .ok (.iload_n 2, 1) := by decide +kernel
theorem dX0_goAll_18 : decode cX0_goAll 18 = .ok (.bipush 64, 2) := by decide +kernel
theorem dX0_goAll_20 : decode cX0_goAll 20 = .ok (.if_icmp .ge 83, 3) := by decide +kernel
theorem dX0_goAll_23 : decode cX0_goAll 23 = .ok (.iconst 0, 1) := by decide +kernel
theorem dX0_goAll_24 : decode cX0_goAll 24 = .ok (.istore_n 3, 1) := by decide +kernel
theorem dX0_goAll_25 : decode cX0_goAll 25 = .ok (.iload_n 3, 1) := by decide +kernel
theorem dX0_goAll_26 : decode cX0_goAll 26 = .ok (.bipush 6, 2) := by decide +kernel
theorem dX0_goAll_28 : decode cX0_goAll 28 = .ok (.if_icmp .gt 69, 3) := by decide +kernel
theorem dX0_goAll_31 : decode cX0_goAll 31 = .ok (.iload_n 2, 1) := by decide +kernel
theorem dX0_goAll_32 : decode cX0_goAll 32 = .ok (.iload_n 3, 1) := by decide +kernel
theorem dX0_goAll_33 : decode cX0_goAll 33 = .ok (.invokestatic 40, 3) := by decide +kernel
theorem dX0_goAll_36 : decode cX0_goAll 36 = .ok (.iload_n 2, 1) := by decide +kernel
theorem dX0_goAll_37 : decode cX0_goAll 37 = .ok (.if_icmp .ne 54, 3) := by decide +kernel
theorem dX0_goAll_40 : decode cX0_goAll 40 = .ok (.aload_n 0, 1) := by decide +kernel
theorem dX0_goAll_41 : decode cX0_goAll 41 = .ok (.aload_n 1, 1) := by decide +kernel
theorem dX0_goAll_42 : decode cX0_goAll 42 = .ok (.iload_n 2, 1) := by decide +kernel
theorem dX0_goAll_43 : decode cX0_goAll 43 = .ok (.iload_n 3, 1) := by decide +kernel
theorem dX0_goAll_44 : decode cX0_goAll 44 = .ok (.invokevirtual 44, 3) := by decide +kernel
theorem dX0_goAll_47 : decode cX0_goAll 47 = .ok (.aload_n 0, 1) := by decide +kernel
theorem dX0_goAll_48 : decode cX0_goAll 48 = .ok (.dup, 1) := by decide +kernel
theorem dX0_goAll_49 : decode cX0_goAll 49 = .ok (.getfield 34, 3) := by decide +kernel
theorem dX0_goAll_52 : decode cX0_goAll 52 = .ok (.aload_n 0, 1) := by decide +kernel
theorem dX0_goAll_53 : decode cX0_goAll 53 = .ok (.getfield 24, 3) := by decide +kernel
theorem dX0_goAll_56 : decode cX0_goAll 56 = .ok (.iadd, 1) := by decide +kernel
theorem dX0_goAll_57 : decode cX0_goAll 57 = .ok (.putfield 34, 3) := by decide +kernel
theorem dX0_goAll_60 : decode cX0_goAll 60 = .ok (.aload_n 0, 1) := by decide +kernel
theorem dX0_goAll_61 : decode cX0_goAll 61 = .ok (.dup, 1) := by decide +kernel
theorem dX0_goAll_62 : decode cX0_goAll 62 = .ok (.getfield 31, 3) := by decide +kernel
theorem dX0_goAll_65 : decode cX0_goAll 65 = .ok (.aload_n 0, 1) := by decide +kernel
theorem dX0_goAll_66 : decode cX0_goAll 66 = .ok (.getfield 28, 3) := by decide +kernel
theorem dX0_goAll_69 : decode cX0_goAll 69 = .ok (.iadd, 1) := by decide +kernel
theorem dX0_goAll_70 : decode cX0_goAll 70 = .ok (.putfield 31, 3) := by decide +kernel
theorem dX0_goAll_73 : decode cX0_goAll 73 = .ok (.aload_n 0, 1) := by decide +kernel
theorem dX0_goAll_74 : decode cX0_goAll 74 = .ok (.aload_n 0, 1) := by decide +kernel
theorem dX0_goAll_75 : decode cX0_goAll 75 = .ok (.getfield 37, 3) := by decide +kernel
theorem dX0_goAll_78 : decode cX0_goAll 78 = .ok (.aload_n 0, 1) := by decide +kernel
theorem dX0_goAll_79 : decode cX0_goAll 79 = .ok (.getfield 14, 3) := by decide +kernel
theorem dX0_goAll_82 : decode cX0_goAll 82 = .ok (.invokevirtual 48, 3) := by decide +kernel
theorem dX0_goAll_85 : decode cX0_goAll 85 = .ok (.invokestatic 52, 3) := by decide +kernel
theorem dX0_goAll_88 : decode cX0_goAll 88 = .ok (.putfield 37, 3) := by decide +kernel
theorem dX0_goAll_91 : decode cX0_goAll 91 = .ok (.iinc 3 1, 3) := by decide +kernel
theorem dX0_goAll_94 : decode cX0_goAll 94 = .ok (.goto (-69), 3) := by decide +kernel
theorem dX0_goAll_97 : decode cX0_goAll 97 = .ok (.iinc 2 1, 3) := by decide +kernel
theorem dX0_goAll_100 : decode cX0_goAll 100 = .ok (.goto (-83), 3) := by decide +kernel
theorem dX0_goAll_103 : decode cX0_goAll 103 = .ok (.return_, 1) := by decide +kernel
theorem dX0_goTo_0 : decode cX0_goTo 0 = .ok (.iconst 0, 1) := by decide +kernel
theorem dX0_goTo_1 : decode cX0_goTo 1 = .ok (.istore 4, 2) := by decide +kernel
theorem dX0_goTo_3 : decode cX0_goTo 3 = .ok (.iload 4, 2) := by decide +kernel
theorem dX0_goTo_5 : decode cX0_goTo 5 = .ok (.iload_n 3, 1) := by decide +kernel
theorem dX0_goTo_6 : decode cX0_goTo 6 = .ok (.if_icmp .gt 22, 3) := by decide +kernel
theorem dX0_goTo_9 : decode cX0_goTo 9 = .ok (.aload_n 0, 1) := by decide +kernel
theorem dX0_goTo_10 : decode cX0_goTo 10 = .ok (.aload_n 1, 1) := by decide +kernel
theorem dX0_goTo_11 : decode cX0_goTo 11 = .ok (.iload_n 2, 1) := by decide +kernel
theorem dX0_goTo_12 : decode cX0_goTo 12 = .ok (.iload 4, 2) := by decide +kernel
theorem dX0_goTo_14 : decode cX0_goTo 14 = .ok (.invokestatic 40, 3) := by decide +kernel
theorem dX0_goTo_17 : decode cX0_goTo 17 = .ok (.iload 4, 2) := by decide +kernel
theorem dX0_goTo_19 : decode cX0_goTo 19 = .ok (.invokevirtual 44, 3) := by decide +kernel
theorem dX0_goTo_22 : decode cX0_goTo 22 = .ok (.iinc 4 1, 3) := by decide +kernel
theorem dX0_goTo_25 : decode cX0_goTo 25 = .ok (.goto (-22), 3) := by decide +kernel
theorem dX0_goTo_28 : decode cX0_goTo 28 = .ok (.return_, 1) := by decide +kernel
theorem dX0_joinLaid_0 : decode cX0_joinLaid 0 = .ok (.iload_n 3, 1) := by decide +kernel
theorem dX0_joinLaid_1 : decode cX0_joinLaid 1 = .ok (.ifCond .lt 9, 3) := by decide +kernel
theorem dX0_joinLaid_4 : decode cX0_joinLaid 4 = .ok (.iload_n 3, 1) := by decide +kernel
theorem dX0_joinLaid_5 : decode cX0_joinLaid 5 = .ok (.bipush 6, 2) := by decide +kernel
theorem dX0_joinLaid_7 : decode cX0_joinLaid 7 = .ok (.if_icmp .le 4, 3) := by decide +kernel
theorem dX0_joinLaid_10 : decode cX0_joinLaid 10 = .ok (.return_, 1) := by decide +kernel
theorem dX0_joinLaid_11 : decode cX0_joinLaid 11 = .ok (.iload_n 3, 1) := by decide +kernel
theorem dX0_joinLaid_12 : decode cX0_joinLaid 12 = .ok (.ifCond .ne 7, 3) := by decide +kernel
theorem dX0_joinLaid_15 : decode cX0_joinLaid 15 = .ok (.iconst 0, 1) := by decide +kernel
theorem dX0_joinLaid_16 : decode cX0_joinLaid 16 = .ok (.goto 11, 3) := by decide +kernel
theorem dX0_joinLaid_19 : decode cX0_joinLaid 19 = .ok (.aload_n 0, 1) := by decide +kernel
theorem dX0_joinLaid_20 : decode cX0_joinLaid 20 = .ok (.getfield 20, 3) := by decide +kernel
theorem dX0_joinLaid_23 : decode cX0_joinLaid 23 = .ok (.iload_n 3, 1) := by decide +kernel
theorem dX0_joinLaid_24 : decode cX0_joinLaid 24 = .ok (.iconst 1, 1) := by decide +kernel
theorem dX0_joinLaid_25 : decode cX0_joinLaid 25 = .ok (.isub, 1) := by decide +kernel
theorem dX0_joinLaid_26 : decode cX0_joinLaid 26 = .ok (.iaload, 1) := by decide +kernel
theorem dX0_joinLaid_27 : decode cX0_joinLaid 27 = .ok (.istore 4, 2) := by decide +kernel
theorem dX0_joinLaid_29 : decode cX0_joinLaid 29 = .ok (.aload_n 0, 1) := by decide +kernel
theorem dX0_joinLaid_30 : decode cX0_joinLaid 30 = .ok (.getfield 14, 3) := by decide +kernel
theorem dX0_joinLaid_33 : decode cX0_joinLaid 33 = .ok (.iload 4, 2) := by decide +kernel
theorem dX0_joinLaid_35 : decode cX0_joinLaid 35 = .ok (.invokevirtual 57, 3) := by decide +kernel
theorem dX0_joinLaid_38 : decode cX0_joinLaid 38 = .ok (.aload_n 0, 1) := by decide +kernel
theorem dX0_joinLaid_39 : decode cX0_joinLaid 39 = .ok (.iconst 0, 1) := by decide +kernel
theorem dX0_joinLaid_40 : decode cX0_joinLaid 40 = .ok (.putfield 24, 3) := by decide +kernel
theorem dX0_joinLaid_43 : decode cX0_joinLaid 43 = .ok (.iconst 0, 1) := by decide +kernel
theorem dX0_joinLaid_44 : decode cX0_joinLaid 44 = .ok (.istore 5, 2) := by decide +kernel
theorem dX0_joinLaid_46 : decode cX0_joinLaid 46 = .ok (.iload 5, 2) := by decide +kernel
theorem dX0_joinLaid_48 : decode cX0_joinLaid 48 = .ok (.aload_n 1, 1) := by decide +kernel
theorem dX0_joinLaid_49 : decode cX0_joinLaid 49 = .ok (.invokevirtual 60, 3) := by decide +kernel
theorem dX0_joinLaid_52 : decode cX0_joinLaid 52 = .ok (.if_icmp .ge 49, 3) := by decide +kernel
theorem dX0_joinLaid_55 : decode cX0_joinLaid 55 = .ok (.aload_n 1, 1) := by decide +kernel
theorem dX0_joinLaid_56 : decode cX0_joinLaid 56 = .ok (.iload 5, 2) := by decide +kernel
theorem dX0_joinLaid_58 : decode cX0_joinLaid 58 = .ok (.iload_n 2, 1) := by decide +kernel
theorem dX0_joinLaid_59 : decode cX0_joinLaid 59 = .ok (.iload_n 3, 1) := by decide +kernel
theorem dX0_joinLaid_60 : decode cX0_joinLaid 60 = .ok (.invokevirtual 65, 3) := by decide +kernel
theorem dX0_joinLaid_63 : decode cX0_joinLaid 63 = .ok (.ifCond .eq 32, 3) := by decide +kernel
theorem dX0_joinLaid_66 : decode cX0_joinLaid 66 = .ok (.aload_n 0, 1) := by decide +kernel
theorem dX0_joinLaid_67 : decode cX0_joinLaid 67 = .ok (.dup, 1) := by decide +kernel
theorem dX0_joinLaid_68 : decode cX0_joinLaid 68 = .ok (.getfield 24, 3) := by decide +kernel
theorem dX0_joinLaid_71 : decode cX0_joinLaid 71 = .ok (.iconst 1, 1) := by decide +kernel
theorem dX0_joinLaid_72 : decode cX0_joinLaid 72 = .ok (.iadd, 1) := by decide +kernel
theorem dX0_joinLaid_73 : decode cX0_joinLaid 73 = .ok (.putfield 24, 3) := by decide +kernel
theorem dX0_joinLaid_76 : decode cX0_joinLaid 76 = .ok (.aload_n 0, 1) := by decide +kernel
theorem dX0_joinLaid_77 : decode cX0_joinLaid 77 = .ok (.getfield 14, 3) := by decide +kernel
theorem dX0_joinLaid_80 : decode cX0_joinLaid 80 = .ok (.aload_n 1, 1) := by decide +kernel
theorem dX0_joinLaid_81 : decode cX0_joinLaid 81 = .ok (.iload 5, 2) := by decide +kernel
theorem dX0_joinLaid_83 : decode cX0_joinLaid 83 = .ok (.invokevirtual 69, 3) := by decide +kernel
theorem dX0_joinLaid_86 : decode cX0_joinLaid 86 = .ok (.aload_n 1, 1) := by decide +kernel
theorem dX0_joinLaid_87 : decode cX0_joinLaid 87 = .ok (.iload 5, 2) := by decide +kernel
theorem dX0_joinLaid_89 : decode cX0_joinLaid 89 = .ok (.invokevirtual 73, 3) := by decide +kernel
theorem dX0_joinLaid_92 : decode cX0_joinLaid 92 = .ok (.invokevirtual 76, 3) := by decide +kernel
theorem dX0_joinLaid_95 : decode cX0_joinLaid 95 = .ok (.iinc 5 1, 3) := by decide +kernel
theorem dX0_joinLaid_98 : decode cX0_joinLaid 98 = .ok (.goto (-52), 3) := by decide +kernel
theorem dX0_joinLaid_101 : decode cX0_joinLaid 101 = .ok (.aload_n 0, 1) := by decide +kernel
theorem dX0_joinLaid_102 : decode cX0_joinLaid 102 = .ok (.getfield 20, 3) := by decide +kernel
theorem dX0_joinLaid_105 : decode cX0_joinLaid 105 = .ok (.iload_n 3, 1) := by decide +kernel
theorem dX0_joinLaid_106 : decode cX0_joinLaid 106 = .ok (.aload_n 0, 1) := by decide +kernel
theorem dX0_joinLaid_107 : decode cX0_joinLaid 107 = .ok (.getfield 14, 3) := by decide +kernel
theorem dX0_joinLaid_110 : decode cX0_joinLaid 110 = .ok (.invokevirtual 48, 3) := by decide +kernel
theorem dX0_joinLaid_113 : decode cX0_joinLaid 113 = .ok (.iastore, 1) := by decide +kernel
theorem dX0_joinLaid_114 : decode cX0_joinLaid 114 = .ok (.aload_n 0, 1) := by decide +kernel
theorem dX0_joinLaid_115 : decode cX0_joinLaid 115 = .ok (.aload_n 0, 1) := by decide +kernel
theorem dX0_joinLaid_116 : decode cX0_joinLaid 116 = .ok (.getfield 14, 3) := by decide +kernel
theorem dX0_joinLaid_119 : decode cX0_joinLaid 119 = .ok (.invokevirtual 48, 3) := by decide +kernel
theorem dX0_joinLaid_122 : decode cX0_joinLaid 122 = .ok (.iload 4, 2) := by decide +kernel
theorem dX0_joinLaid_124 : decode cX0_joinLaid 124 = .ok (.isub, 1) := by decide +kernel
theorem dX0_joinLaid_125 : decode cX0_joinLaid 125 = .ok (.putfield 28, 3) := by decide +kernel
theorem dX0_joinLaid_128 : decode cX0_joinLaid 128 = .ok (.return_, 1) := by decide +kernel
theorem dX1_init_0 : decode cX1_init 0 = .ok (.aload_n 0, 1) := by decide +kernel
theorem dX1_init_1 : decode cX1_init 1 = .ok (.invokespecial 3, 3) := by decide +kernel
theorem dX1_init_4 : decode cX1_init 4 = .ok (.aload_n 0, 1) := by decide +kernel
theorem dX1_init_5 : decode cX1_init 5 = .ok (.iconst 4, 1) := by decide +kernel
theorem dX1_init_6 : decode cX1_init 6 = .ok (.anewarray 9, 3) := by decide +kernel
theorem dX1_init_9 : decode cX1_init 9 = .ok (.putfield 11, 3) := by decide +kernel
theorem dX1_init_12 : decode cX1_init 12 = .ok (.iconst 0, 1) := by decide +kernel
theorem dX1_init_13 : decode cX1_init 13 = .ok (.istore_n 1, 1) := by decide +kernel
theorem dX1_init_14 : decode cX1_init 14 = .ok (.iload_n 1, 1) := by decide +kernel
theorem dX1_init_15 : decode cX1_init 15 = .ok (.iconst 4, 1) := by decide +kernel
theorem dX1_init_16 : decode cX1_init 16 = .ok (.if_icmp .ge 22, 3) := by decide +kernel
theorem dX1_init_19 : decode cX1_init 19 = .ok (.aload_n 0, 1) := by decide +kernel
theorem dX1_init_20 : decode cX1_init 20 = .ok (.getfield 11, 3) := by decide +kernel
theorem dX1_init_23 : decode cX1_init 23 = .ok (.iload_n 1, 1) := by decide +kernel
theorem dX1_init_24 : decode cX1_init 24 = .ok (.new 9, 3) := by decide +kernel
theorem dX1_init_27 : decode cX1_init 27 = .ok (.dup, 1) := by decide +kernel
theorem dX1_init_28 : decode cX1_init 28 = .ok (.invokespecial 17, 3) := by decide +kernel
theorem dX1_init_31 : decode cX1_init 31 = .ok (.aastore, 1) := by decide +kernel
theorem dX1_init_32 : decode cX1_init 32 = .ok (.iinc 1 1, 3) := by decide +kernel
theorem dX1_init_35 : decode cX1_init 35 = .ok (.goto (-21), 3) := by decide +kernel
theorem dX1_init_38 : decode cX1_init 38 = .ok (.return_, 1) := by decide +kernel
theorem dX1_size_0 : decode cX1_size 0 = .ok (.aload_n 0, 1) := by decide +kernel
theorem dX1_size_1 : decode cX1_size 1 = .ok (.getfield 18, 3) := by decide +kernel
theorem dX1_size_4 : decode cX1_size 4 = .ok (.ireturn, 1) := by decide +kernel
theorem dX1_remember_0 : decode cX1_remember 0 = .ok (.aload_n 0, 1) := by decide +kernel
theorem dX1_remember_1 : decode cX1_remember 1 = .ok (.getfield 18, 3) := by decide +kernel
theorem dX1_remember_4 : decode cX1_remember 4 = .ok (.iconst 4, 1) := by decide +kernel
theorem dX1_remember_5 : decode cX1_remember 5 = .ok (.if_icmp .lt 7, 3) := by decide +kernel
theorem dX1_remember_8 : decode cX1_remember 8 = .ok (.aload_n 0, 1) := by decide +kernel
theorem dX1_remember_9 : decode cX1_remember 9 = .ok (.invokevirtual 22, 3) := by decide +kernel
theorem dX1_remember_12 : decode cX1_remember 12 = .ok (.aload_n 0, 1) := by decide +kernel
theorem dX1_remember_13 : decode cX1_remember 13 = .ok (.getfield 11, 3) := by decide +kernel
theorem dX1_remember_16 : decode cX1_remember 16 = .ok (.aload_n 0, 1) := by decide +kernel
theorem dX1_remember_17 : decode cX1_remember 17 = .ok (.getfield 18, 3) := by decide +kernel
theorem dX1_remember_20 : decode cX1_remember 20 = .ok (.aaload, 1) := by decide +kernel
theorem dX1_remember_21 : decode cX1_remember 21 = .ok (.astore_n 2, 1) := by decide +kernel
theorem dX1_remember_22 : decode cX1_remember 22 = .ok (.aload_n 2, 1) := by decide +kernel
theorem dX1_remember_23 : decode cX1_remember 23 = .ok (.ifnull 18, 3) := by decide +kernel
theorem dX1_remember_26 : decode cX1_remember 26 = .ok (.aload_n 2, 1) := by decide +kernel
theorem dX1_remember_27 : decode cX1_remember 27 = .ok (.aload_n 1, 1) := by decide +kernel
theorem dX1_remember_28 : decode cX1_remember 28 = .ok (.invokevirtual 25, 3) := by decide +kernel
theorem dX1_remember_31 : decode cX1_remember 31 = .ok (.aload_n 0, 1) := by decide +kernel
theorem dX1_remember_32 : decode cX1_remember 32 = .ok (.dup, 1) := by decide +kernel
theorem dX1_remember_33 : decode cX1_remember 33 = .ok (.getfield 18, 3) := by decide +kernel
theorem dX1_remember_36 : decode cX1_remember 36 = .ok (.iconst 1, 1) := by decide +kernel
theorem dX1_remember_37 : decode cX1_remember 37 = .ok (.iadd, 1) := by decide +kernel
theorem dX1_remember_38 : decode cX1_remember 38 = .ok (.putfield 18, 3) := by decide +kernel
theorem dX1_remember_41 : decode cX1_remember 41 = .ok (.return_, 1) := by decide +kernel
theorem dX1_dropOldest_0 : decode cX1_dropOldest 0 = .ok (.aload_n 0, 1) := by decide +kernel
theorem dX1_dropOldest_1 : decode cX1_dropOldest 1 = .ok (.getfield 11, 3) := by decide +kernel
theorem dX1_dropOldest_4 : decode cX1_dropOldest 4 = .ok (.iconst 0, 1) := by decide +kernel
theorem dX1_dropOldest_5 : decode cX1_dropOldest 5 = .ok (.aaload, 1) := by decide +kernel
theorem dX1_dropOldest_6 : decode cX1_dropOldest 6 = .ok (.astore_n 1, 1) := by decide +kernel
theorem dX1_dropOldest_7 : decode cX1_dropOldest 7 = .ok (.iconst 1, 1) := by decide +kernel
theorem dX1_dropOldest_8 : decode cX1_dropOldest 8 = .ok (.istore_n 2, 1) := by decide +kernel
theorem dX1_dropOldest_9 : decode cX1_dropOldest 9 = .ok (.iload_n 2, 1) := by decide +kernel
theorem dX1_dropOldest_10 : decode cX1_dropOldest 10 = .ok (.iconst 4, 1) := by decide +kernel
theorem dX1_dropOldest_11 : decode cX1_dropOldest 11 = .ok (.if_icmp .ge 23, 3) := by decide +kernel
theorem dX1_dropOldest_14 : decode cX1_dropOldest 14 = .ok (.aload_n 0, 1) := by decide +kernel
theorem dX1_dropOldest_15 : decode cX1_dropOldest 15 = .ok (.getfield 11, 3) := by decide +kernel
theorem dX1_dropOldest_18 : decode cX1_dropOldest 18 = .ok (.iload_n 2, 1) := by decide +kernel
theorem dX1_dropOldest_19 : decode cX1_dropOldest 19 = .ok (.iconst 1, 1) := by decide +kernel
theorem dX1_dropOldest_20 : decode cX1_dropOldest 20 = .ok (.isub, 1) := by decide +kernel
theorem dX1_dropOldest_21 : decode cX1_dropOldest 21 = .ok (.aload_n 0, 1) := by decide +kernel
theorem dX1_dropOldest_22 : decode cX1_dropOldest 22 = .ok (.getfield 11, 3) := by decide +kernel
theorem dX1_dropOldest_25 : decode cX1_dropOldest 25 = .ok (.iload_n 2, 1) := by decide +kernel
theorem dX1_dropOldest_26 : decode cX1_dropOldest 26 = .ok (.aaload, 1) := by decide +kernel
theorem dX1_dropOldest_27 : decode cX1_dropOldest 27 = .ok (.aastore, 1) := by decide +kernel
theorem dX1_dropOldest_28 : decode cX1_dropOldest 28 = .ok (.iinc 2 1, 3) := by decide +kernel
theorem dX1_dropOldest_31 : decode cX1_dropOldest 31 = .ok (.goto (-22), 3) := by decide +kernel
theorem dX1_dropOldest_34 : decode cX1_dropOldest 34 = .ok (.aload_n 0, 1) := by decide +kernel
theorem dX1_dropOldest_35 : decode cX1_dropOldest 35 = .ok (.getfield 11, 3) := by decide +kernel
theorem dX1_dropOldest_38 : decode cX1_dropOldest 38 = .ok (.iconst 3, 1) := by decide +kernel
theorem dX1_dropOldest_39 : decode cX1_dropOldest 39 = .ok (.aload_n 1, 1) := by decide +kernel
theorem dX1_dropOldest_40 : decode cX1_dropOldest 40 = .ok (.aastore, 1) := by decide +kernel
theorem dX1_dropOldest_41 : decode cX1_dropOldest 41 = .ok (.aload_n 0, 1) := by decide +kernel
theorem dX1_dropOldest_42 : decode cX1_dropOldest 42 = .ok (.iconst 3, 1) := by decide +kernel
theorem dX1_dropOldest_43 : decode cX1_dropOldest 43 = .ok (.putfield 18, 3) := by decide +kernel
theorem dX1_dropOldest_46 : decode cX1_dropOldest 46 = .ok (.return_, 1) := by decide +kernel
theorem dX1_goBack_0 : decode cX1_goBack 0 = .ok (.aload_n 0, 1) := by decide +kernel
theorem dX1_goBack_1 : decode cX1_goBack 1 = .ok (.getfield 18, 3) := by decide +kernel
theorem dX1_goBack_4 : decode cX1_goBack 4 = .ok (.iconst 1, 1) := by decide +kernel
theorem dX1_goBack_5 : decode cX1_goBack 5 = .ok (.if_icmp .ge 4, 3) := by decide +kernel
theorem dX1_goBack_8 : decode cX1_goBack 8 = .ok (.return_, 1) := by decide +kernel
theorem dX1_goBack_9 : decode cX1_goBack 9 = .ok (.aload_n 0, 1) := by decide +kernel
theorem dX1_goBack_10 : decode cX1_goBack 10 = .ok (.dup, 1) := by decide +kernel
theorem dX1_goBack_11 : decode cX1_goBack 11 = .ok (.getfield 18, 3) := by decide +kernel
theorem dX1_goBack_14 : decode cX1_goBack 14 = .ok (.iconst 1, 1) := by decide +kernel
theorem dX1_goBack_15 : decode cX1_goBack 15 = .ok (.isub, 1) := by decide +kernel
theorem dX1_goBack_16 : decode cX1_goBack 16 = .ok (.putfield 18, 3) := by decide +kernel
theorem dX1_goBack_19 : decode cX1_goBack 19 = .ok (.aload_n 0, 1) := by decide +kernel
theorem dX1_goBack_20 : decode cX1_goBack 20 = .ok (.getfield 11, 3) := by decide +kernel
theorem dX1_goBack_23 : decode cX1_goBack 23 = .ok (.aload_n 0, 1) := by decide +kernel
theorem dX1_goBack_24 : decode cX1_goBack 24 = .ok (.getfield 18, 3) := by decide +kernel
theorem dX1_goBack_27 : decode cX1_goBack 27 = .ok (.aaload, 1) := by decide +kernel
theorem dX1_goBack_28 : decode cX1_goBack 28 = .ok (.astore_n 2, 1) := by decide +kernel
theorem dX1_goBack_29 : decode cX1_goBack 29 = .ok (.aload_n 2, 1) := by decide +kernel
theorem dX1_goBack_30 : decode cX1_goBack 30 = .ok (.ifnull 8, 3) := by decide +kernel
theorem dX1_goBack_33 : decode cX1_goBack 33 = .ok (.aload_n 1, 1) := by decide +kernel
theorem dX1_goBack_34 : decode cX1_goBack 34 = .ok (.aload_n 2, 1) := by decide +kernel
theorem dX1_goBack_35 : decode cX1_goBack 35 = .ok (.invokevirtual 25, 3) := by decide +kernel
theorem dX1_goBack_38 : decode cX1_goBack 38 = .ok (.return_, 1) := by decide +kernel
theorem dX2_init_0 : decode cX2_init 0 = .ok (.aload_n 0, 1) := by decide +kernel
theorem dX2_init_1 : decode cX2_init 1 = .ok (.invokespecial 1, 3) := by decide +kernel
theorem dX2_init_4 : decode cX2_init 4 = .ok (.iload_n 1, 1) := by decide +kernel
theorem dX2_init_5 : decode cX2_init 5 = .ok (.iconst 0, 1) := by decide +kernel
theorem dX2_init_6 : decode cX2_init 6 = .ok (.invokestatic 7, 3) := by decide +kernel
theorem dX2_init_9 : decode cX2_init 9 = .ok (.istore_n 2, 1) := by decide +kernel
theorem dX2_init_10 : decode cX2_init 10 = .ok (.aload_n 0, 1) := by decide +kernel
theorem dX2_init_11 : decode cX2_init 11 = .ok (.iload_n 2, 1) := by decide +kernel
theorem dX2_init_12 : decode cX2_init 12 = .ok (.newarray .int, 2) := by decide +kernel
theorem dX2_init_14 : decode cX2_init 14 = .ok (.putfield 13, 3) := by decide +kernel
theorem dX2_init_17 : decode cX2_init 17 = .ok (.aload_n 0, 1) := by decide +kernel
theorem dX2_init_18 : decode cX2_init 18 = .ok (.iload_n 2, 1) := by decide +kernel
theorem dX2_init_19 : decode cX2_init 19 = .ok (.newarray .int, 2) := by decide +kernel
theorem dX2_init_21 : decode cX2_init 21 = .ok (.putfield 19, 3) := by decide +kernel
theorem dX2_init_24 : decode cX2_init 24 = .ok (.aload_n 0, 1) := by decide +kernel
theorem dX2_init_25 : decode cX2_init 25 = .ok (.iload_n 2, 1) := by decide +kernel
theorem dX2_init_26 : decode cX2_init 26 = .ok (.newarray .int, 2) := by decide +kernel
theorem dX2_init_28 : decode cX2_init 28 = .ok (.putfield 22, 3) := by decide +kernel
theorem dX2_init_31 : decode cX2_init 31 = .ok (.iconst 0, 1) := by decide +kernel
theorem dX2_init_32 : decode cX2_init 32 = .ok (.istore_n 3, 1) := by decide +kernel
theorem dX2_init_33 : decode cX2_init 33 = .ok (.iload_n 3, 1) := by decide +kernel
theorem dX2_init_34 : decode cX2_init 34 = .ok (.iload_n 2, 1) := by decide +kernel
theorem dX2_init_35 : decode cX2_init 35 = .ok (.if_icmp .ge 23, 3) := by decide +kernel
theorem dX2_init_38 : decode cX2_init 38 = .ok (.aload_n 0, 1) := by decide +kernel
theorem dX2_init_39 : decode cX2_init 39 = .ok (.getfield 13, 3) := by decide +kernel
theorem dX2_init_42 : decode cX2_init 42 = .ok (.iload_n 3, 1) := by decide +kernel
theorem dX2_init_43 : decode cX2_init 43 = .ok (.iload_n 3, 1) := by decide +kernel
theorem dX2_init_44 : decode cX2_init 44 = .ok (.iastore, 1) := by decide +kernel
theorem dX2_init_45 : decode cX2_init 45 = .ok (.aload_n 0, 1) := by decide +kernel
theorem dX2_init_46 : decode cX2_init 46 = .ok (.getfield 19, 3) := by decide +kernel
theorem dX2_init_49 : decode cX2_init 49 = .ok (.iload_n 3, 1) := by decide +kernel
theorem dX2_init_50 : decode cX2_init 50 = .ok (.iconst 1, 1) := by decide +kernel
theorem dX2_init_51 : decode cX2_init 51 = .ok (.iastore, 1) := by decide +kernel
theorem dX2_init_52 : decode cX2_init 52 = .ok (.iinc 3 1, 3) := by decide +kernel
theorem dX2_init_55 : decode cX2_init 55 = .ok (.goto (-22), 3) := by decide +kernel
theorem dX2_init_58 : decode cX2_init 58 = .ok (.return_, 1) := by decide +kernel
theorem dX2_standing_0 : decode cX2_standing 0 = .ok (.aload_n 0, 1) := by decide +kernel
theorem dX2_standing_1 : decode cX2_standing 1 = .ok (.getfield 25, 3) := by decide +kernel
theorem dX2_standing_4 : decode cX2_standing 4 = .ok (.ireturn, 1) := by decide +kernel
theorem dX2_has_0 : decode cX2_has 0 = .ok (.iload_n 1, 1) := by decide +kernel
theorem dX2_has_1 : decode cX2_has 1 = .ok (.ifCond .lt 16, 3) := by decide +kernel
theorem dX2_has_4 : decode cX2_has 4 = .ok (.iload_n 1, 1) := by decide +kernel
theorem dX2_has_5 : decode cX2_has 5 = .ok (.aload_n 0, 1) := by decide +kernel
theorem dX2_has_6 : decode cX2_has 6 = .ok (.getfield 13, 3) := by decide +kernel
theorem dX2_has_9 : decode cX2_has 9 = .ok (.arraylength, 1) := by decide +kernel
theorem dX2_has_10 : decode cX2_has 10 = .ok (.if_icmp .ge 7, 3) := by decide +kernel
theorem dX2_has_13 : decode cX2_has 13 = .ok (.iconst 1, 1) := by decide +kernel
theorem dX2_has_14 : decode cX2_has 14 = .ok (.goto 4, 3) := by decide +kernel
theorem dX2_has_17 : decode cX2_has 17 = .ok (.iconst 0, 1) := by decide +kernel
theorem dX2_has_18 : decode cX2_has 18 = .ok (.ireturn, 1) := by decide +kernel
theorem dX2_topOf_0 : decode cX2_topOf 0 = .ok (.iload_n 1, 1) := by decide +kernel
theorem dX2_topOf_1 : decode cX2_topOf 1 = .ok (.istore_n 2, 1) := by decide +kernel
theorem dX2_topOf_2 : decode cX2_topOf 2 = .ok (.iconst 0, 1) := by decide +kernel
theorem dX2_topOf_3 : decode cX2_topOf 3 = .ok (.istore_n 3, 1) := by decide +kernel
theorem dX2_topOf_4 : decode cX2_topOf 4 = .ok (.iload_n 3, 1) := by decide +kernel
theorem dX2_topOf_5 : decode cX2_topOf 5 = .ok (.aload_n 0, 1) := by decide +kernel
theorem dX2_topOf_6 : decode cX2_topOf 6 = .ok (.getfield 13, 3) := by decide +kernel
theorem dX2_topOf_9 : decode cX2_topOf 9 = .ok (.arraylength, 1) := by decide +kernel
theorem dX2_topOf_10 : decode cX2_topOf 10 = .ok (.if_icmp .ge 34, 3) := by decide +kernel
theorem dX2_topOf_13 : decode cX2_topOf 13 = .ok (.aload_n 0, 1) := by decide +kernel
theorem dX2_topOf_14 : decode cX2_topOf 14 = .ok (.iload_n 2, 1) := by decide +kernel
theorem dX2_topOf_15 : decode cX2_topOf 15 = .ok (.invokevirtual 29, 3) := by decide +kernel
theorem dX2_topOf_18 : decode cX2_topOf 18 = .ok (.ifCond .eq 26, 3) := by decide +kernel
theorem dX2_topOf_21 : decode cX2_topOf 21 = .ok (.aload_n 0, 1) := by decide +kernel
theorem dX2_topOf_22 : decode cX2_topOf 22 = .ok (.getfield 13, 3) := by decide +kernel
theorem dX2_topOf_25 : decode cX2_topOf 25 = .ok (.iload_n 2, 1) := by decide +kernel
theorem dX2_topOf_26 : decode cX2_topOf 26 = .ok (.iaload, 1) := by decide +kernel
theorem dX2_topOf_27 : decode cX2_topOf 27 = .ok (.iload_n 2, 1) := by decide +kernel
theorem dX2_topOf_28 : decode cX2_topOf 28 = .ok (.if_icmp .eq 16, 3) := by decide +kernel
theorem dX2_topOf_31 : decode cX2_topOf 31 = .ok (.aload_n 0, 1) := by decide +kernel
theorem dX2_topOf_32 : decode cX2_topOf 32 = .ok (.getfield 13, 3) := by decide +kernel
theorem dX2_topOf_35 : decode cX2_topOf 35 = .ok (.iload_n 2, 1) := by decide +kernel
theorem dX2_topOf_36 : decode cX2_topOf 36 = .ok (.iaload, 1) := by decide +kernel
theorem dX2_topOf_37 : decode cX2_topOf 37 = .ok (.istore_n 2, 1) := by decide +kernel
theorem dX2_topOf_38 : decode cX2_topOf 38 = .ok (.iinc 3 1, 3) := by decide +kernel
theorem dX2_topOf_41 : decode cX2_topOf 41 = .ok (.goto (-37), 3) := by decide +kernel
theorem dX2_topOf_44 : decode cX2_topOf 44 = .ok (.iload_n 2, 1) := by decide +kernel
theorem dX2_topOf_45 : decode cX2_topOf 45 = .ok (.ireturn, 1) := by decide +kernel
theorem dX2_areJoined_0 : decode cX2_areJoined 0 = .ok (.aload_n 0, 1) := by decide +kernel
theorem dX2_areJoined_1 : decode cX2_areJoined 1 = .ok (.iload_n 1, 1) := by decide +kernel
theorem dX2_areJoined_2 : decode cX2_areJoined 2 = .ok (.invokevirtual 33, 3) := by decide +kernel
theorem dX2_areJoined_5 : decode cX2_areJoined 5 = .ok (.aload_n 0, 1) := by decide +kernel
theorem dX2_areJoined_6 : decode cX2_areJoined 6 = .ok (.iload_n 2, 1) := by decide +kernel
theorem dX2_areJoined_7 : decode cX2_areJoined 7 = .ok (.invokevirtual 33, 3) := by decide +kernel
theorem dX2_areJoined_10 : decode cX2_areJoined 10 = .ok (.if_icmp .ne 7, 3) := by decide +kernel
theorem dX2_areJoined_13 : decode cX2_areJoined 13 = .ok (.iconst 1, 1) := by decide +kernel
theorem dX2_areJoined_14 : decode cX2_areJoined 14 = .ok (.goto 4, 3) := by decide +kernel
theorem dX2_areJoined_17 : decode cX2_areJoined 17 = .ok (.iconst 0, 1) := by decide +kernel
theorem dX2_areJoined_18 : decode cX2_areJoined 18 = .ok (.ireturn, 1) := by decide +kernel
theorem dX2_partSize_0 : decode cX2_partSize 0 = .ok (.aload_n 0, 1) := by decide +kernel
theorem dX2_partSize_1 : decode cX2_partSize 1 = .ok (.iload_n 1, 1) := by decide +kernel
theorem dX2_partSize_2 : decode cX2_partSize 2 = .ok (.invokevirtual 33, 3) := by decide +kernel
theorem dX2_partSize_5 : decode cX2_partSize 5 = .ok (.istore_n 2, 1) := by decide +kernel
theorem dX2_partSize_6 : decode cX2_partSize 6 = .ok (.aload_n 0, 1) := by decide +kernel
theorem dX2_partSize_7 : decode cX2_partSize 7 = .ok (.iload_n 2, 1) := by decide +kernel
theorem dX2_partSize_8 : decode cX2_partSize 8 = .ok (.invokevirtual 29, 3) := by decide +kernel
theorem dX2_partSize_11 : decode cX2_partSize 11 = .ok (.ifCond .eq 12, 3) := by decide +kernel
theorem dX2_partSize_14 : decode cX2_partSize 14 = .ok (.aload_n 0, 1) := by decide +kernel
theorem dX2_partSize_15 : decode cX2_partSize 15 = .ok (.getfield 19, 3) := by decide +kernel
theorem dX2_partSize_18 : decode cX2_partSize 18 = .ok (.iload_n 2, 1) := by decide +kernel
theorem dX2_partSize_19 : decode cX2_partSize 19 = .ok (.iaload, 1) := by decide +kernel
theorem dX2_partSize_20 : decode cX2_partSize 20 = .ok (.goto 4, 3) := by decide +kernel
theorem dX2_partSize_23 : decode cX2_partSize 23 = .ok (.iconst 0, 1) := by decide +kernel
theorem dX2_partSize_24 : decode cX2_partSize 24 = .ok (.ireturn, 1) := by decide +kernel
theorem dX2_join_0 : decode cX2_join 0 = .ok (.aload_n 0, 1) := by decide +kernel
theorem dX2_join_1 : decode cX2_join 1 = .ok (.iload_n 1, 1) := by decide +kernel
theorem dX2_join_2 : decode cX2_join 2 = .ok (.invokevirtual 33, 3) := by decide +kernel
theorem dX2_join_5 : decode cX2_join 5 = .ok (.istore_n 3, 1) := by decide +kernel
theorem dX2_join_6 : decode cX2_join 6 = .ok (.aload_n 0, 1) := by decide +kernel
theorem dX2_join_7 : decode cX2_join 7 = .ok (.iload_n 2, 1) := by decide +kernel
theorem dX2_join_8 : decode cX2_join 8 = .ok (.invokevirtual 33, 3) := by decide +kernel
theorem dX2_join_11 : decode cX2_join 11 = .ok (.istore 4, 2) := by decide +kernel
theorem dX2_join_13 : decode cX2_join 13 = .ok (.aload_n 0, 1) := by decide +kernel
theorem dX2_join_14 : decode cX2_join 14 = .ok (.iload_n 3, 1) := by decide +kernel
theorem dX2_join_15 : decode cX2_join 15 = .ok (.invokevirtual 29, 3) := by decide +kernel
theorem dX2_join_18 : decode cX2_join 18 = .ok (.ifCond .eq 30, 3) := by decide +kernel
theorem dX2_join_21 : decode cX2_join 21 = .ok (.aload_n 0, 1) := by decide +kernel
theorem dX2_join_22 : decode cX2_join 22 = .ok (.iload 4, 2) := by decide +kernel
theorem dX2_join_24 : decode cX2_join 24 = .ok (.invokevirtual 29, 3) := by decide +kernel
theorem dX2_join_27 : decode cX2_join 27 = .ok (.ifCond .eq 21, 3) := by decide +kernel
theorem dX2_join_30 : decode cX2_join 30 = .ok (.iload_n 3, 1) := by decide +kernel
theorem dX2_join_31 : decode cX2_join 31 = .ok (.iload 4, 2) := by decide +kernel
theorem dX2_join_33 : decode cX2_join 33 = .ok (.if_icmp .eq 15, 3) := by decide +kernel
theorem dX2_join_36 : decode cX2_join 36 = .ok (.aload_n 0, 1) := by decide +kernel
theorem dX2_join_37 : decode cX2_join 37 = .ok (.getfield 25, 3) := by decide +kernel
theorem dX2_join_40 : decode cX2_join 40 = .ok (.aload_n 0, 1) := by decide +kernel
theorem dX2_join_41 : decode cX2_join 41 = .ok (.getfield 22, 3) := by decide +kernel
theorem dX2_join_44 : decode cX2_join 44 = .ok (.arraylength, 1) := by decide +kernel
theorem dX2_join_45 : decode cX2_join 45 = .ok (.if_icmp .lt 4, 3) := by decide +kernel
theorem dX2_join_48 : decode cX2_join 48 = .ok (.return_, 1) := by decide +kernel
theorem dX2_join_49 : decode cX2_join 49 = .ok (.aload_n 0, 1) := by decide +kernel
theorem dX2_join_50 : decode cX2_join 50 = .ok (.getfield 19, 3) := by decide +kernel
theorem dX2_join_53 : decode cX2_join 53 = .ok (.iload_n 3, 1) := by decide +kernel
theorem dX2_join_54 : decode cX2_join 54 = .ok (.iaload, 1) := by decide +kernel
theorem dX2_join_55 : decode cX2_join 55 = .ok (.aload_n 0, 1) := by decide +kernel
theorem dX2_join_56 : decode cX2_join 56 = .ok (.getfield 19, 3) := by decide +kernel
theorem dX2_join_59 : decode cX2_join 59 = .ok (.iload 4, 2) := by decide +kernel
theorem dX2_join_61 : decode cX2_join 61 = .ok (.iaload, 1) := by decide +kernel
theorem dX2_join_62 : decode cX2_join 62 = .ok (.if_icmp .ge 13, 3) := by decide +kernel
theorem dX2_join_65 : decode cX2_join 65 = .ok (.iload_n 3, 1) := by decide +kernel
theorem dX2_join_66 : decode cX2_join 66 = .ok (.istore 5, 2) := by decide +kernel
theorem dX2_join_68 : decode cX2_join 68 = .ok (.iload 4, 2) := by decide +kernel
theorem dX2_join_70 : decode cX2_join 70 = .ok (.istore_n 3, 1) := by decide +kernel
theorem dX2_join_71 : decode cX2_join 71 = .ok (.iload 5, 2) := by decide +kernel
theorem dX2_join_73 : decode cX2_join 73 = .ok (.istore 4, 2) := by decide +kernel
theorem dX2_join_75 : decode cX2_join 75 = .ok (.aload_n 0, 1) := by decide +kernel
theorem dX2_join_76 : decode cX2_join 76 = .ok (.getfield 13, 3) := by decide +kernel
theorem dX2_join_79 : decode cX2_join 79 = .ok (.iload 4, 2) := by decide +kernel
theorem dX2_join_81 : decode cX2_join 81 = .ok (.iload_n 3, 1) := by decide +kernel
theorem dX2_join_82 : decode cX2_join 82 = .ok (.iastore, 1) := by decide +kernel
theorem dX2_join_83 : decode cX2_join 83 = .ok (.aload_n 0, 1) := by decide +kernel
theorem dX2_join_84 : decode cX2_join 84 = .ok (.getfield 19, 3) := by decide +kernel
theorem dX2_join_87 : decode cX2_join 87 = .ok (.iload_n 3, 1) := by decide +kernel
theorem dX2_join_88 : decode cX2_join 88 = .ok (.dup2, 1) := by decide +kernel
theorem dX2_join_89 : decode cX2_join 89 = .ok (.iaload, 1) := by decide +kernel
theorem dX2_join_90 : decode cX2_join 90 = .ok (.aload_n 0, 1) := by decide +kernel
theorem dX2_join_91 : decode cX2_join 91 = .ok (.getfield 19, 3) := by decide +kernel
theorem dX2_join_94 : decode cX2_join 94 = .ok (.iload 4, 2) := by decide +kernel
theorem dX2_join_96 : decode cX2_join 96 = .ok (.iaload, 1) := by decide +kernel
theorem dX2_join_97 : decode cX2_join 97 = .ok (.iadd, 1) := by decide +kernel
theorem dX2_join_98 : decode cX2_join 98 = .ok (.iastore, 1) := by decide +kernel
theorem dX2_join_99 : decode cX2_join 99 = .ok (.aload_n 0, 1) := by decide +kernel
theorem dX2_join_100 : decode cX2_join 100 = .ok (.getfield 22, 3) := by decide +kernel
theorem dX2_join_103 : decode cX2_join 103 = .ok (.aload_n 0, 1) := by decide +kernel
theorem dX2_join_104 : decode cX2_join 104 = .ok (.getfield 25, 3) := by decide +kernel
theorem dX2_join_107 : decode cX2_join 107 = .ok (.iload 4, 2) := by decide +kernel
theorem dX2_join_109 : decode cX2_join 109 = .ok (.iastore, 1) := by decide +kernel
theorem dX2_join_110 : decode cX2_join 110 = .ok (.aload_n 0, 1) := by decide +kernel
theorem dX2_join_111 : decode cX2_join 111 = .ok (.dup, 1) := by decide +kernel
theorem dX2_join_112 : decode cX2_join 112 = .ok (.getfield 25, 3) := by decide +kernel
theorem dX2_join_115 : decode cX2_join 115 = .ok (.iconst 1, 1) := by decide +kernel
theorem dX2_join_116 : decode cX2_join 116 = .ok (.iadd, 1) := by decide +kernel
theorem dX2_join_117 : decode cX2_join 117 = .ok (.putfield 25, 3) := by decide +kernel
theorem dX2_join_120 : decode cX2_join 120 = .ok (.return_, 1) := by decide +kernel
theorem dX2_takeBackTo_0 : decode cX2_takeBackTo 0 = .ok (.iload_n 1, 1) := by decide +kernel
theorem dX2_takeBackTo_1 : decode cX2_takeBackTo 1 = .ok (.iconst 0, 1) := by decide +kernel
theorem dX2_takeBackTo_2 : decode cX2_takeBackTo 2 = .ok (.invokestatic 7, 3) := by decide +kernel
theorem dX2_takeBackTo_5 : decode cX2_takeBackTo 5 = .ok (.istore_n 2, 1) := by decide +kernel
theorem dX2_takeBackTo_6 : decode cX2_takeBackTo 6 = .ok (.aload_n 0, 1) := by decide +kernel
theorem dX2_takeBackTo_7 : decode cX2_takeBackTo 7 = .ok (.getfield 25, 3) := by decide +kernel
theorem dX2_takeBackTo_10 : decode cX2_takeBackTo 10 = .ok (.iload_n 2, 1) := by decide +kernel
theorem dX2_takeBackTo_11 : decode cX2_takeBackTo 11 = .ok (.if_icmp .le 41, 3) := by decide +kernel
theorem dX2_takeBackTo_14 : decode cX2_takeBackTo 14 = .ok (.aload_n 0, 1) := by decide +kernel
theorem dX2_takeBackTo_15 : decode cX2_takeBackTo 15 = .ok (.getfield 25, 3) := by decide +kernel
theorem dX2_takeBackTo_18 : decode cX2_takeBackTo 18 = .ok (.aload_n 0, 1) := by decide +kernel
theorem dX2_takeBackTo_19 : decode cX2_takeBackTo 19 = .ok (.getfield 22, 3) := by decide +kernel
theorem dX2_takeBackTo_22 : decode cX2_takeBackTo 22 = .ok (.arraylength, 1) := by decide +kernel
theorem dX2_takeBackTo_23 : decode cX2_takeBackTo 23 = .ok (.if_icmp .gt 29, 3) := by decide +kernel
theorem dX2_takeBackTo_26 : decode cX2_takeBackTo 26 = .ok (.aload_n 0, 1) := by decide +kernel
theorem dX2_takeBackTo_27 : decode cX2_takeBackTo 27 = .ok (.dup, 1) := by decide +kernel
theorem dX2_takeBackTo_28 : decode cX2_takeBackTo 28 = .ok (.getfield 25, 3) := by decide +kernel
theorem dX2_takeBackTo_31 : decode cX2_takeBackTo 31 = .ok (.iconst 1, 1) := by decide +kernel
theorem dX2_takeBackTo_32 : decode cX2_takeBackTo 32 = .ok (.isub, 1) := by decide +kernel
theorem dX2_takeBackTo_33 : decode cX2_takeBackTo 33 = .ok (.putfield 25, 3) := by decide +kernel
theorem dX2_takeBackTo_36 : decode cX2_takeBackTo 36 = .ok (.aload_n 0, 1) := by decide +kernel
theorem dX2_takeBackTo_37 : decode cX2_takeBackTo 37 = .ok (.aload_n 0, 1) := by decide +kernel
theorem dX2_takeBackTo_38 : decode cX2_takeBackTo 38 = .ok (.getfield 22, 3) := by decide +kernel
theorem dX2_takeBackTo_41 : decode cX2_takeBackTo 41 = .ok (.aload_n 0, 1) := by decide +kernel
theorem dX2_takeBackTo_42 : decode cX2_takeBackTo 42 = .ok (.getfield 25, 3) := by decide +kernel
theorem dX2_takeBackTo_45 : decode cX2_takeBackTo 45 = .ok (.iaload, 1) := by decide +kernel
theorem dX2_takeBackTo_46 : decode cX2_takeBackTo 46 = .ok (.invokevirtual 37, 3) := by decide +kernel
theorem dX2_takeBackTo_49 : decode cX2_takeBackTo 49 = .ok (.goto (-43), 3) := by decide +kernel
theorem dX2_takeBackTo_52 : decode cX2_takeBackTo 52 = .ok (.return_, 1) := by decide +kernel
theorem dX2_takeOff_0 : decode cX2_takeOff 0 = .ok (.aload_n 0, 1) := by decide +kernel
theorem dX2_takeOff_1 : decode cX2_takeOff 1 = .ok (.iload_n 1, 1) := by decide +kernel
theorem dX2_takeOff_2 : decode cX2_takeOff 2 = .ok (.invokevirtual 29, 3) := by decide +kernel
theorem dX2_takeOff_5 : decode cX2_takeOff 5 = .ok (.ifCond .ne 4, 3) := by decide +kernel
theorem dX2_takeOff_8 : decode cX2_takeOff 8 = .ok (.return_, 1) := by decide +kernel
theorem dX2_takeOff_9 : decode cX2_takeOff 9 = .ok (.aload_n 0, 1) := by decide +kernel
theorem dX2_takeOff_10 : decode cX2_takeOff 10 = .ok (.getfield 13, 3) := by decide +kernel
theorem dX2_takeOff_13 : decode cX2_takeOff 13 = .ok (.iload_n 1, 1) := by decide +kernel
theorem dX2_takeOff_14 : decode cX2_takeOff 14 = .ok (.iaload, 1) := by decide +kernel
theorem dX2_takeOff_15 : decode cX2_takeOff 15 = .ok (.istore_n 2, 1) := by decide +kernel
theorem dX2_takeOff_16 : decode cX2_takeOff 16 = .ok (.aload_n 0, 1) := by decide +kernel
theorem dX2_takeOff_17 : decode cX2_takeOff 17 = .ok (.iload_n 2, 1) := by decide +kernel
theorem dX2_takeOff_18 : decode cX2_takeOff 18 = .ok (.invokevirtual 29, 3) := by decide +kernel
theorem dX2_takeOff_21 : decode cX2_takeOff 21 = .ok (.ifCond .eq 25, 3) := by decide +kernel
theorem dX2_takeOff_24 : decode cX2_takeOff 24 = .ok (.aload_n 0, 1) := by decide +kernel
theorem dX2_takeOff_25 : decode cX2_takeOff 25 = .ok (.getfield 19, 3) := by decide +kernel
theorem dX2_takeOff_28 : decode cX2_takeOff 28 = .ok (.iload_n 2, 1) := by decide +kernel
theorem dX2_takeOff_29 : decode cX2_takeOff 29 = .ok (.dup2, 1) := by decide +kernel
theorem dX2_takeOff_30 : decode cX2_takeOff 30 = .ok (.iaload, 1) := by decide +kernel
theorem dX2_takeOff_31 : decode cX2_takeOff 31 = .ok (.aload_n 0, 1) := by decide +kernel
theorem dX2_takeOff_32 : decode cX2_takeOff 32 = .ok (.getfield 19, 3) := by decide +kernel
theorem dX2_takeOff_35 : decode cX2_takeOff 35 = .ok (.iload_n 1, 1) := by decide +kernel
theorem dX2_takeOff_36 : decode cX2_takeOff 36 = .ok (.iaload, 1) := by decide +kernel
theorem dX2_takeOff_37 : decode cX2_takeOff 37 = .ok (.isub, 1) := by decide +kernel
theorem dX2_takeOff_38 : decode cX2_takeOff 38 = .ok (.iastore, 1) := by decide +kernel
theorem dX2_takeOff_39 : decode cX2_takeOff 39 = .ok (.aload_n 0, 1) := by decide +kernel
theorem dX2_takeOff_40 : decode cX2_takeOff 40 = .ok (.getfield 13, 3) := by decide +kernel
theorem dX2_takeOff_43 : decode cX2_takeOff 43 = .ok (.iload_n 1, 1) := by decide +kernel
theorem dX2_takeOff_44 : decode cX2_takeOff 44 = .ok (.iload_n 1, 1) := by decide +kernel
theorem dX2_takeOff_45 : decode cX2_takeOff 45 = .ok (.iastore, 1) := by decide +kernel
theorem dX2_takeOff_46 : decode cX2_takeOff 46 = .ok (.return_, 1) := by decide +kernel
theorem dX3_init_0 : decode cX3_init 0 = .ok (.aload_n 0, 1) := by decide +kernel
theorem dX3_init_1 : decode cX3_init 1 = .ok (.invokespecial 3, 3) := by decide +kernel
theorem dX3_init_4 : decode cX3_init 4 = .ok (.aload_n 0, 1) := by decide +kernel
theorem dX3_init_5 : decode cX3_init 5 = .ok (.bipush 60, 2) := by decide +kernel
theorem dX3_init_7 : decode cX3_init 7 = .ok (.newarray .char, 2) := by decide +kernel
theorem dX3_init_9 : decode cX3_init 9 = .ok (.putfield 9, 3) := by decide +kernel
theorem dX3_init_12 : decode cX3_init 12 = .ok (.return_, 1) := by decide +kernel
theorem dX3_length_0 : decode cX3_length 0 = .ok (.aload_n 0, 1) := by decide +kernel
theorem dX3_length_1 : decode cX3_length 1 = .ok (.getfield 15, 3) := by decide +kernel
theorem dX3_length_4 : decode cX3_length 4 = .ok (.ireturn, 1) := by decide +kernel
theorem dX4_init_0 : decode cX4_init 0 = .ok (.aload_n 0, 1) := by decide +kernel
theorem dX4_init_1 : decode cX4_init 1 = .ok (.invokespecial 3, 3) := by decide +kernel
theorem dX4_init_4 : decode cX4_init 4 = .ok (.aload_n 0, 1) := by decide +kernel
theorem dX4_init_5 : decode cX4_init 5 = .ok (.bipush 40, 2) := by decide +kernel
theorem dX4_init_7 : decode cX4_init 7 = .ok (.newarray .int, 2) := by decide +kernel
theorem dX4_init_9 : decode cX4_init 9 = .ok (.putfield 9, 3) := by decide +kernel
theorem dX4_init_12 : decode cX4_init 12 = .ok (.aload_n 0, 1) := by decide +kernel
theorem dX4_init_13 : decode cX4_init 13 = .ok (.bipush 40, 2) := by decide +kernel
theorem dX4_init_15 : decode cX4_init 15 = .ok (.newarray .int, 2) := by decide +kernel
theorem dX4_init_17 : decode cX4_init 17 = .ok (.putfield 15, 3) := by decide +kernel
theorem dX4_init_20 : decode cX4_init 20 = .ok (.aload_n 0, 1) := by decide +kernel
theorem dX4_init_21 : decode cX4_init 21 = .ok (.bipush 40, 2) := by decide +kernel
theorem dX4_init_23 : decode cX4_init 23 = .ok (.newarray .int, 2) := by decide +kernel
theorem dX4_init_25 : decode cX4_init 25 = .ok (.putfield 18, 3) := by decide +kernel
theorem dX4_init_28 : decode cX4_init 28 = .ok (.aload_n 0, 1) := by decide +kernel
theorem dX4_init_29 : decode cX4_init 29 = .ok (.bipush 40, 2) := by decide +kernel
theorem dX4_init_31 : decode cX4_init 31 = .ok (.newarray .int, 2) := by decide +kernel
theorem dX4_init_33 : decode cX4_init 33 = .ok (.putfield 21, 3) := by decide +kernel
theorem dX4_init_36 : decode cX4_init 36 = .ok (.return_, 1) := by decide +kernel
theorem dX4_size_0 : decode cX4_size 0 = .ok (.aload_n 0, 1) := by decide +kernel
theorem dX4_size_1 : decode cX4_size 1 = .ok (.getfield 24, 3) := by decide +kernel
theorem dX4_size_4 : decode cX4_size 4 = .ok (.ireturn, 1) := by decide +kernel
theorem dX4_room_0 : decode cX4_room 0 = .ok (.bipush 40, 2) := by decide +kernel
theorem dX4_room_2 : decode cX4_room 2 = .ok (.aload_n 0, 1) := by decide +kernel
theorem dX4_room_3 : decode cX4_room 3 = .ok (.getfield 24, 3) := by decide +kernel
theorem dX4_room_6 : decode cX4_room 6 = .ok (.isub, 1) := by decide +kernel
theorem dX4_room_7 : decode cX4_room 7 = .ok (.ireturn, 1) := by decide +kernel
theorem dX4_has_0 : decode cX4_has 0 = .ok (.iload_n 1, 1) := by decide +kernel
theorem dX4_has_1 : decode cX4_has 1 = .ok (.ifCond .lt 15, 3) := by decide +kernel
theorem dX4_has_4 : decode cX4_has 4 = .ok (.iload_n 1, 1) := by decide +kernel
theorem dX4_has_5 : decode cX4_has 5 = .ok (.aload_n 0, 1) := by decide +kernel
theorem dX4_has_6 : decode cX4_has 6 = .ok (.getfield 24, 3) := by decide +kernel
theorem dX4_has_9 : decode cX4_has 9 = .ok (.if_icmp .ge 7, 3) := by decide +kernel
theorem dX4_has_12 : decode cX4_has 12 = .ok (.iconst 1, 1) := by decide +kernel
theorem dX4_has_13 : decode cX4_has 13 = .ok (.goto 4, 3) := by decide +kernel
theorem dX4_has_16 : decode cX4_has 16 = .ok (.iconst 0, 1) := by decide +kernel
theorem dX4_has_17 : decode cX4_has 17 = .ok (.ireturn, 1) := by decide +kernel
theorem dX4_oneOf_0 : decode cX4_oneOf 0 = .ok (.aload_n 0, 1) := by decide +kernel
theorem dX4_oneOf_1 : decode cX4_oneOf 1 = .ok (.iload_n 1, 1) := by decide +kernel
theorem dX4_oneOf_2 : decode cX4_oneOf 2 = .ok (.invokevirtual 28, 3) := by decide +kernel
theorem dX4_oneOf_5 : decode cX4_oneOf 5 = .ok (.ifCond .eq 12, 3) := by decide +kernel
theorem dX4_oneOf_8 : decode cX4_oneOf 8 = .ok (.aload_n 0, 1) := by decide +kernel
theorem dX4_oneOf_9 : decode cX4_oneOf 9 = .ok (.getfield 9, 3) := by decide +kernel
theorem dX4_oneOf_12 : decode cX4_oneOf 12 = .ok (.iload_n 1, 1) := by decide +kernel
theorem dX4_oneOf_13 : decode cX4_oneOf 13 = .ok (.iaload, 1) := by decide +kernel
theorem dX4_oneOf_14 : decode cX4_oneOf 14 = .ok (.goto 4, 3) := by decide +kernel
theorem dX4_oneOf_17 : decode cX4_oneOf 17 = .ok (.iconst 0, 1) := by decide +kernel
theorem dX4_oneOf_18 : decode cX4_oneOf 18 = .ok (.ireturn, 1) := by decide +kernel
theorem dX4_otherOf_0 : decode cX4_otherOf 0 = .ok (.aload_n 0, 1) := by decide +kernel
theorem dX4_otherOf_1 : decode cX4_otherOf 1 = .ok (.iload_n 1, 1) := by decide +kernel
theorem dX4_otherOf_2 : decode cX4_otherOf 2 = .ok (.invokevirtual 28, 3) := by decide +kernel
theorem dX4_otherOf_5 : decode cX4_otherOf 5 = .ok (.ifCond .eq 12, 3) := by decide +kernel
theorem dX4_otherOf_8 : decode cX4_otherOf 8 = .ok (.aload_n 0, 1) := by decide +kernel
theorem dX4_otherOf_9 : decode cX4_otherOf 9 = .ok (.getfield 15, 3) := by decide +kernel
theorem dX4_otherOf_12 : decode cX4_otherOf 12 = .ok (.iload_n 1, 1) := by decide +kernel
theorem dX4_otherOf_13 : decode cX4_otherOf 13 = .ok (.iaload, 1) := by decide +kernel
theorem dX4_otherOf_14 : decode cX4_otherOf 14 = .ok (.goto 4, 3) := by decide +kernel
theorem dX4_otherOf_17 : decode cX4_otherOf 17 = .ok (.iconst 0, 1) := by decide +kernel
theorem dX4_otherOf_18 : decode cX4_otherOf 18 = .ok (.ireturn, 1) := by decide +kernel
theorem dX4_fromOf_0 : decode cX4_fromOf 0 = .ok (.aload_n 0, 1) := by decide +kernel
theorem dX4_fromOf_1 : decode cX4_fromOf 1 = .ok (.iload_n 1, 1) := by decide +kernel
theorem dX4_fromOf_2 : decode cX4_fromOf 2 = .ok (.invokevirtual 28, 3) := by decide +kernel
theorem dX4_fromOf_5 : decode cX4_fromOf 5 = .ok (.ifCond .eq 12, 3) := by decide +kernel
theorem dX4_fromOf_8 : decode cX4_fromOf 8 = .ok (.aload_n 0, 1) := by decide +kernel
theorem dX4_fromOf_9 : decode cX4_fromOf 9 = .ok (.getfield 18, 3) := by decide +kernel
theorem dX4_fromOf_12 : decode cX4_fromOf 12 = .ok (.iload_n 1, 1) := by decide +kernel
theorem dX4_fromOf_13 : decode cX4_fromOf 13 = .ok (.iaload, 1) := by decide +kernel
theorem dX4_fromOf_14 : decode cX4_fromOf 14 = .ok (.goto 4, 3) := by decide +kernel
theorem dX4_fromOf_17 : decode cX4_fromOf 17 = .ok (.iconst 0, 1) := by decide +kernel
theorem dX4_fromOf_18 : decode cX4_fromOf 18 = .ok (.ireturn, 1) := by decide +kernel
theorem dX4_toOf_0 : decode cX4_toOf 0 = .ok (.aload_n 0, 1) := by decide +kernel
theorem dX4_toOf_1 : decode cX4_toOf 1 = .ok (.iload_n 1, 1) := by decide +kernel
theorem dX4_toOf_2 : decode cX4_toOf 2 = .ok (.invokevirtual 28, 3) := by decide +kernel
theorem dX4_toOf_5 : decode cX4_toOf 5 = .ok (.ifCond .eq 12, 3) := by decide +kernel
theorem dX4_toOf_8 : decode cX4_toOf 8 = .ok (.aload_n 0, 1) := by decide +kernel
theorem dX4_toOf_9 : decode cX4_toOf 9 = .ok (.getfield 21, 3) := by decide +kernel
theorem dX4_toOf_12 : decode cX4_toOf 12 = .ok (.iload_n 1, 1) := by decide +kernel
theorem dX4_toOf_13 : decode cX4_toOf 13 = .ok (.iaload, 1) := by decide +kernel
theorem dX4_toOf_14 : decode cX4_toOf 14 = .ok (.goto 4, 3) := by decide +kernel
theorem dX4_toOf_17 : decode cX4_toOf 17 = .ok (.iconst 0, 1) := by decide +kernel
theorem dX4_toOf_18 : decode cX4_toOf 18 = .ok (.ireturn, 1) := by decide +kernel
theorem dX4_livesAt_0 : decode cX4_livesAt 0 = .ok (.aload_n 0, 1) := by decide +kernel
theorem dX4_livesAt_1 : decode cX4_livesAt 1 = .ok (.iload_n 1, 1) := by decide +kernel
theorem dX4_livesAt_2 : decode cX4_livesAt 2 = .ok (.invokevirtual 28, 3) := by decide +kernel
theorem dX4_livesAt_5 : decode cX4_livesAt 5 = .ok (.ifCond .eq 27, 3) := by decide +kernel
theorem dX4_livesAt_8 : decode cX4_livesAt 8 = .ok (.aload_n 0, 1) := by decide +kernel
theorem dX4_livesAt_9 : decode cX4_livesAt 9 = .ok (.getfield 18, 3) := by decide +kernel
theorem dX4_livesAt_12 : decode cX4_livesAt 12 = .ok (.iload_n 1, 1) := by decide +kernel
theorem dX4_livesAt_13 : decode cX4_livesAt 13 = .ok (.iaload, 1) := by decide +kernel
theorem dX4_livesAt_14 : decode cX4_livesAt 14 = .ok (.iload_n 2, 1) := by decide +kernel
theorem dX4_livesAt_15 : decode cX4_livesAt 15 = .ok (.if_icmp .gt 17, 3) := by decide +kernel
theorem dX4_livesAt_18 : decode cX4_livesAt 18 = .ok (.iload_n 2, 1) := by decide +kernel
theorem dX4_livesAt_19 : decode cX4_livesAt 19 = .ok (.aload_n 0, 1) := by decide +kernel
theorem dX4_livesAt_20 : decode cX4_livesAt 20 = .ok (.getfield 21, 3) := by decide +kernel
theorem dX4_livesAt_23 : decode cX4_livesAt 23 = .ok (.iload_n 1, 1) := by decide +kernel
theorem dX4_livesAt_24 : decode cX4_livesAt 24 = .ok (.iaload, 1) := by decide +kernel
theorem dX4_livesAt_25 : decode cX4_livesAt 25 = .ok (.if_icmp .ge 7, 3) := by decide +kernel
theorem dX4_livesAt_28 : decode cX4_livesAt 28 = .ok (.iconst 1, 1) := by decide +kernel
theorem dX4_livesAt_29 : decode cX4_livesAt 29 = .ok (.goto 4, 3) := by decide +kernel
theorem dX4_livesAt_32 : decode cX4_livesAt 32 = .ok (.iconst 0, 1) := by decide +kernel
theorem dX4_livesAt_33 : decode cX4_livesAt 33 = .ok (.ireturn, 1) := by decide +kernel
theorem dX4_livingAt_0 : decode cX4_livingAt 0 = .ok (.iconst 0, 1) := by decide +kernel
theorem dX4_livingAt_1 : decode cX4_livingAt 1 = .ok (.istore_n 2, 1) := by decide +kernel
theorem dX4_livingAt_2 : decode cX4_livingAt 2 = .ok (.iconst 0, 1) := by decide +kernel
theorem dX4_livingAt_3 : decode cX4_livingAt 3 = .ok (.istore_n 3, 1) := by decide +kernel
theorem dX4_livingAt_4 : decode cX4_livingAt 4 = .ok (.iload_n 3, 1) := by decide +kernel
theorem dX4_livingAt_5 : decode cX4_livingAt 5 = .ok (.aload_n 0, 1) := by decide +kernel
theorem dX4_livingAt_6 : decode cX4_livingAt 6 = .ok (.getfield 24, 3) := by decide +kernel
theorem dX4_livingAt_9 : decode cX4_livingAt 9 = .ok (.if_icmp .ge 21, 3) := by decide +kernel
theorem dX4_livingAt_12 : decode cX4_livingAt 12 = .ok (.aload_n 0, 1) := by decide +kernel
theorem dX4_livingAt_13 : decode cX4_livingAt 13 = .ok (.iload_n 3, 1) := by decide +kernel
theorem dX4_livingAt_14 : decode cX4_livingAt 14 = .ok (.iload_n 1, 1) := by decide +kernel
theorem dX4_livingAt_15 : decode cX4_livingAt 15 = .ok (.invokevirtual 32, 3) := by decide +kernel
theorem dX4_livingAt_18 : decode cX4_livingAt 18 = .ok (.ifCond .eq 6, 3) := by decide +kernel
theorem dX4_livingAt_21 : decode cX4_livingAt 21 = .ok (.iinc 2 1, 3) := by decide +kernel
theorem dX4_livingAt_24 : decode cX4_livingAt 24 = .ok (.iinc 3 1, 3) := by decide +kernel
theorem dX4_livingAt_27 : decode cX4_livingAt 27 = .ok (.goto (-23), 3) := by decide +kernel
theorem dX4_livingAt_30 : decode cX4_livingAt 30 = .ok (.iload_n 2, 1) := by decide +kernel
theorem dX4_livingAt_31 : decode cX4_livingAt 31 = .ok (.ireturn, 1) := by decide +kernel
theorem dX4_coversAll_0 : decode cX4_coversAll 0 = .ok (.aload_n 0, 1) := by decide +kernel
theorem dX4_coversAll_1 : decode cX4_coversAll 1 = .ok (.iload_n 1, 1) := by decide +kernel
theorem dX4_coversAll_2 : decode cX4_coversAll 2 = .ok (.invokevirtual 28, 3) := by decide +kernel
theorem dX4_coversAll_5 : decode cX4_coversAll 5 = .ok (.ifCond .eq 29, 3) := by decide +kernel
theorem dX4_coversAll_8 : decode cX4_coversAll 8 = .ok (.aload_n 0, 1) := by decide +kernel
theorem dX4_coversAll_9 : decode cX4_coversAll 9 = .ok (.getfield 18, 3) := by decide +kernel
theorem dX4_coversAll_12 : decode cX4_coversAll 12 = .ok (.iload_n 1, 1) := by decide +kernel
theorem dX4_coversAll_13 : decode cX4_coversAll 13 = .ok (.iaload, 1) := by decide +kernel
theorem dX4_coversAll_14 : decode cX4_coversAll 14 = .ok (.iload_n 2, 1) := by decide +kernel
theorem dX4_coversAll_15 : decode cX4_coversAll 15 = .ok (.if_icmp .gt 19, 3) := by decide +kernel
theorem dX4_coversAll_18 : decode cX4_coversAll 18 = .ok (.iload_n 2, 1) := by decide +kernel
theorem dX4_coversAll_19 : decode cX4_coversAll 19 = .ok (.iload_n 3, 1) := by decide +kernel
theorem dX4_coversAll_20 : decode cX4_coversAll 20 = .ok (.iadd, 1) := by decide +kernel
theorem dX4_coversAll_21 : decode cX4_coversAll 21 = .ok (.aload_n 0, 1) := by decide +kernel
theorem dX4_coversAll_22 : decode cX4_coversAll 22 = .ok (.getfield 21, 3) := by decide +kernel
theorem dX4_coversAll_25 : decode cX4_coversAll 25 = .ok (.iload_n 1, 1) := by decide +kernel
theorem dX4_coversAll_26 : decode cX4_coversAll 26 = .ok (.iaload, 1) := by decide +kernel
theorem dX4_coversAll_27 : decode cX4_coversAll 27 = .ok (.if_icmp .gt 7, 3) := by decide +kernel
theorem dX4_coversAll_30 : decode cX4_coversAll 30 = .ok (.iconst 1, 1) := by decide +kernel
theorem dX4_coversAll_31 : decode cX4_coversAll 31 = .ok (.goto 4, 3) := by decide +kernel
theorem dX4_coversAll_34 : decode cX4_coversAll 34 = .ok (.iconst 0, 1) := by decide +kernel
theorem dX4_coversAll_35 : decode cX4_coversAll 35 = .ok (.ireturn, 1) := by decide +kernel
theorem dX4_isLaidAt_0 : decode cX4_isLaidAt 0 = .ok (.aload_n 0, 1) := by decide +kernel
theorem dX4_isLaidAt_1 : decode cX4_isLaidAt 1 = .ok (.iload_n 1, 1) := by decide +kernel
theorem dX4_isLaidAt_2 : decode cX4_isLaidAt 2 = .ok (.iload_n 2, 1) := by decide +kernel
theorem dX4_isLaidAt_3 : decode cX4_isLaidAt 3 = .ok (.iload_n 3, 1) := by decide +kernel
theorem dX4_isLaidAt_4 : decode cX4_isLaidAt 4 = .ok (.invokestatic 36, 3) := by decide +kernel
theorem dX4_isLaidAt_7 : decode cX4_isLaidAt 7 = .ok (.invokevirtual 40, 3) := by decide +kernel
theorem dX4_isLaidAt_10 : decode cX4_isLaidAt 10 = .ok (.ifCond .ne 5, 3) := by decide +kernel
theorem dX4_isLaidAt_13 : decode cX4_isLaidAt 13 = .ok (.iconst 0, 1) := by decide +kernel
theorem dX4_isLaidAt_14 : decode cX4_isLaidAt 14 = .ok (.ireturn, 1) := by decide +kernel
theorem dX4_isLaidAt_15 : decode cX4_isLaidAt 15 = .ok (.iload_n 3, 1) := by decide +kernel
theorem dX4_isLaidAt_16 : decode cX4_isLaidAt 16 = .ok (.ifCond .eq 24, 3) := by decide +kernel
theorem dX4_isLaidAt_19 : decode cX4_isLaidAt 19 = .ok (.aload_n 0, 1) := by decide +kernel
theorem dX4_isLaidAt_20 : decode cX4_isLaidAt 20 = .ok (.iload_n 1, 1) := by decide +kernel
theorem dX4_isLaidAt_21 : decode cX4_isLaidAt 21 = .ok (.iload_n 2, 1) := by decide +kernel
theorem dX4_isLaidAt_22 : decode cX4_isLaidAt 22 = .ok (.iload_n 3, 1) := by decide +kernel
theorem dX4_isLaidAt_23 : decode cX4_isLaidAt 23 = .ok (.iconst 1, 1) := by decide +kernel
theorem dX4_isLaidAt_24 : decode cX4_isLaidAt 24 = .ok (.isub, 1) := by decide +kernel
theorem dX4_isLaidAt_25 : decode cX4_isLaidAt 25 = .ok (.invokestatic 44, 3) := by decide +kernel
theorem dX4_isLaidAt_28 : decode cX4_isLaidAt 28 = .ok (.iload_n 3, 1) := by decide +kernel
theorem dX4_isLaidAt_29 : decode cX4_isLaidAt 29 = .ok (.iconst 1, 1) := by decide +kernel
theorem dX4_isLaidAt_30 : decode cX4_isLaidAt 30 = .ok (.isub, 1) := by decide +kernel
theorem dX4_isLaidAt_31 : decode cX4_isLaidAt 31 = .ok (.invokestatic 36, 3) := by decide +kernel
theorem dX4_isLaidAt_34 : decode cX4_isLaidAt 34 = .ok (.invokevirtual 40, 3) := by decide +kernel
theorem dX4_isLaidAt_37 : decode cX4_isLaidAt 37 = .ok (.ifCond .ne 7, 3) := by decide +kernel
theorem dX4_isLaidAt_40 : decode cX4_isLaidAt 40 = .ok (.iconst 1, 1) := by decide +kernel
theorem dX4_isLaidAt_41 : decode cX4_isLaidAt 41 = .ok (.goto 4, 3) := by decide +kernel
theorem dX4_isLaidAt_44 : decode cX4_isLaidAt 44 = .ok (.iconst 0, 1) := by decide +kernel
theorem dX4_isLaidAt_45 : decode cX4_isLaidAt 45 = .ok (.ireturn, 1) := by decide +kernel
theorem dX4_spansOf_0 : decode cX4_spansOf 0 = .ok (.iconst 0, 1) := by decide +kernel
theorem dX4_spansOf_1 : decode cX4_spansOf 1 = .ok (.istore_n 2, 1) := by decide +kernel
theorem dX4_spansOf_2 : decode cX4_spansOf 2 = .ok (.iconst 0, 1) := by decide +kernel
theorem dX4_spansOf_3 : decode cX4_spansOf 3 = .ok (.istore_n 3, 1) := by decide +kernel
theorem dX4_spansOf_4 : decode cX4_spansOf 4 = .ok (.iload_n 3, 1) := by decide +kernel
theorem dX4_spansOf_5 : decode cX4_spansOf 5 = .ok (.bipush 64, 2) := by decide +kernel
theorem dX4_spansOf_7 : decode cX4_spansOf 7 = .ok (.if_icmp .ge 49, 3) := by decide +kernel
theorem dX4_spansOf_10 : decode cX4_spansOf 10 = .ok (.iconst 0, 1) := by decide +kernel
theorem dX4_spansOf_11 : decode cX4_spansOf 11 = .ok (.istore 4, 2) := by decide +kernel
theorem dX4_spansOf_13 : decode cX4_spansOf 13 = .ok (.iload 4, 2) := by decide +kernel
theorem dX4_spansOf_15 : decode cX4_spansOf 15 = .ok (.bipush 6, 2) := by decide +kernel
theorem dX4_spansOf_17 : decode cX4_spansOf 17 = .ok (.if_icmp .gt 33, 3) := by decide +kernel
theorem dX4_spansOf_20 : decode cX4_spansOf 20 = .ok (.iload_n 3, 1) := by decide +kernel
theorem dX4_spansOf_21 : decode cX4_spansOf 21 = .ok (.iload 4, 2) := by decide +kernel
theorem dX4_spansOf_23 : decode cX4_spansOf 23 = .ok (.invokestatic 44, 3) := by decide +kernel
theorem dX4_spansOf_26 : decode cX4_spansOf 26 = .ok (.iload_n 3, 1) := by decide +kernel
theorem dX4_spansOf_27 : decode cX4_spansOf 27 = .ok (.if_icmp .ne 17, 3) := by decide +kernel
theorem dX4_spansOf_30 : decode cX4_spansOf 30 = .ok (.aload_n 0, 1) := by decide +kernel
theorem dX4_spansOf_31 : decode cX4_spansOf 31 = .ok (.iload_n 1, 1) := by decide +kernel
theorem dX4_spansOf_32 : decode cX4_spansOf 32 = .ok (.iload_n 3, 1) := by decide +kernel
theorem dX4_spansOf_33 : decode cX4_spansOf 33 = .ok (.iload 4, 2) := by decide +kernel
theorem dX4_spansOf_35 : decode cX4_spansOf 35 = .ok (.invokevirtual 48, 3) := by decide +kernel
theorem dX4_spansOf_38 : decode cX4_spansOf 38 = .ok (.ifCond .eq 6, 3) := by decide +kernel
theorem dX4_spansOf_41 : decode cX4_spansOf 41 = .ok (.iinc 2 1, 3) := by decide +kernel
theorem dX4_spansOf_44 : decode cX4_spansOf 44 = .ok (.iinc 4 1, 3) := by decide +kernel
theorem dX4_spansOf_47 : decode cX4_spansOf 47 = .ok (.goto (-34), 3) := by decide +kernel
theorem dX4_spansOf_50 : decode cX4_spansOf 50 = .ok (.iinc 3 1, 3) := by decide +kernel
theorem dX4_spansOf_53 : decode cX4_spansOf 53 = .ok (.goto (-49), 3) := by decide +kernel
theorem dX4_spansOf_56 : decode cX4_spansOf 56 = .ok (.iload_n 2, 1) := by decide +kernel
theorem dX4_spansOf_57 : decode cX4_spansOf 57 = .ok (.ireturn, 1) := by decide +kernel
theorem dX4_empty_0 : decode cX4_empty 0 = .ok (.aload_n 0, 1) := by decide +kernel
theorem dX4_empty_1 : decode cX4_empty 1 = .ok (.iconst 0, 1) := by decide +kernel
theorem dX4_empty_2 : decode cX4_empty 2 = .ok (.putfield 24, 3) := by decide +kernel
theorem dX4_empty_5 : decode cX4_empty 5 = .ok (.return_, 1) := by decide +kernel
theorem dX4_add_0 : decode cX4_add 0 = .ok (.aload_n 0, 1) := by decide +kernel
theorem dX4_add_1 : decode cX4_add 1 = .ok (.invokevirtual 51, 3) := by decide +kernel
theorem dX4_add_4 : decode cX4_add 4 = .ok (.ifCond .le 54, 3) := by decide +kernel
theorem dX4_add_7 : decode cX4_add 7 = .ok (.aload_n 0, 1) := by decide +kernel
theorem dX4_add_8 : decode cX4_add 8 = .ok (.getfield 9, 3) := by decide +kernel
theorem dX4_add_11 : decode cX4_add 11 = .ok (.aload_n 0, 1) := by decide +kernel
theorem dX4_add_12 : decode cX4_add 12 = .ok (.getfield 24, 3) := by decide +kernel
theorem dX4_add_15 : decode cX4_add 15 = .ok (.iload_n 1, 1) := by decide +kernel
theorem dX4_add_16 : decode cX4_add 16 = .ok (.iastore, 1) := by decide +kernel
theorem dX4_add_17 : decode cX4_add 17 = .ok (.aload_n 0, 1) := by decide +kernel
theorem dX4_add_18 : decode cX4_add 18 = .ok (.getfield 15, 3) := by decide +kernel
theorem dX4_add_21 : decode cX4_add 21 = .ok (.aload_n 0, 1) := by decide +kernel
theorem dX4_add_22 : decode cX4_add 22 = .ok (.getfield 24, 3) := by decide +kernel
theorem dX4_add_25 : decode cX4_add 25 = .ok (.iload_n 2, 1) := by decide +kernel
theorem dX4_add_26 : decode cX4_add 26 = .ok (.iastore, 1) := by decide +kernel
theorem dX4_add_27 : decode cX4_add 27 = .ok (.aload_n 0, 1) := by decide +kernel
theorem dX4_add_28 : decode cX4_add 28 = .ok (.getfield 18, 3) := by decide +kernel
theorem dX4_add_31 : decode cX4_add 31 = .ok (.aload_n 0, 1) := by decide +kernel
theorem dX4_add_32 : decode cX4_add 32 = .ok (.getfield 24, 3) := by decide +kernel
theorem dX4_add_35 : decode cX4_add 35 = .ok (.iload_n 3, 1) := by decide +kernel
theorem dX4_add_36 : decode cX4_add 36 = .ok (.iastore, 1) := by decide +kernel
theorem dX4_add_37 : decode cX4_add 37 = .ok (.aload_n 0, 1) := by decide +kernel
theorem dX4_add_38 : decode cX4_add 38 = .ok (.getfield 21, 3) := by decide +kernel
theorem dX4_add_41 : decode cX4_add 41 = .ok (.aload_n 0, 1) := by decide +kernel
theorem dX4_add_42 : decode cX4_add 42 = .ok (.getfield 24, 3) := by decide +kernel
theorem dX4_add_45 : decode cX4_add 45 = .ok (.iload 4, 2) := by decide +kernel
theorem dX4_add_47 : decode cX4_add 47 = .ok (.iastore, 1) := by decide +kernel
theorem dX4_add_48 : decode cX4_add 48 = .ok (.aload_n 0, 1) := by decide +kernel
theorem dX4_add_49 : decode cX4_add 49 = .ok (.dup, 1) := by decide +kernel
theorem dX4_add_50 : decode cX4_add 50 = .ok (.getfield 24, 3) := by decide +kernel
theorem dX4_add_53 : decode cX4_add 53 = .ok (.iconst 1, 1) := by decide +kernel
theorem dX4_add_54 : decode cX4_add 54 = .ok (.iadd, 1) := by decide +kernel
theorem dX4_add_55 : decode cX4_add 55 = .ok (.putfield 24, 3) := by decide +kernel
theorem dX4_add_58 : decode cX4_add 58 = .ok (.return_, 1) := by decide +kernel
theorem dX4_addAll_0 : decode cX4_addAll 0 = .ok (.iconst 0, 1) := by decide +kernel
theorem dX4_addAll_1 : decode cX4_addAll 1 = .ok (.istore_n 2, 1) := by decide +kernel
theorem dX4_addAll_2 : decode cX4_addAll 2 = .ok (.iload_n 2, 1) := by decide +kernel
theorem dX4_addAll_3 : decode cX4_addAll 3 = .ok (.aload_n 1, 1) := by decide +kernel
theorem dX4_addAll_4 : decode cX4_addAll 4 = .ok (.getfield 24, 3) := by decide +kernel
theorem dX4_addAll_7 : decode cX4_addAll 7 = .ok (.if_icmp .ge 37, 3) := by decide +kernel
theorem dX4_addAll_10 : decode cX4_addAll 10 = .ok (.aload_n 0, 1) := by decide +kernel
theorem dX4_addAll_11 : decode cX4_addAll 11 = .ok (.aload_n 1, 1) := by decide +kernel
theorem dX4_addAll_12 : decode cX4_addAll 12 = .ok (.getfield 9, 3) := by decide +kernel
theorem dX4_addAll_15 : decode cX4_addAll 15 = .ok (.iload_n 2, 1) := by decide +kernel
theorem dX4_addAll_16 : decode cX4_addAll 16 = .ok (.iaload, 1) := by decide +kernel
theorem dX4_addAll_17 : decode cX4_addAll 17 = .ok (.aload_n 1, 1) := by decide +kernel
theorem dX4_addAll_18 : decode cX4_addAll 18 = .ok (.getfield 15, 3) := by decide +kernel
theorem dX4_addAll_21 : decode cX4_addAll 21 = .ok (.iload_n 2, 1) := by decide +kernel
theorem dX4_addAll_22 : decode cX4_addAll 22 = .ok (.iaload, 1) := by decide +kernel
theorem dX4_addAll_23 : decode cX4_addAll 23 = .ok (.aload_n 1, 1) := by decide +kernel
theorem dX4_addAll_24 : decode cX4_addAll 24 = .ok (.getfield 18, 3) := by decide +kernel
theorem dX4_addAll_27 : decode cX4_addAll 27 = .ok (.iload_n 2, 1) := by decide +kernel
theorem dX4_addAll_28 : decode cX4_addAll 28 = .ok (.iaload, 1) := by decide +kernel
theorem dX4_addAll_29 : decode cX4_addAll 29 = .ok (.aload_n 1, 1) := by decide +kernel
theorem dX4_addAll_30 : decode cX4_addAll 30 = .ok (.getfield 21, 3) := by decide +kernel
theorem dX4_addAll_33 : decode cX4_addAll 33 = .ok (.iload_n 2, 1) := by decide +kernel
theorem dX4_addAll_34 : decode cX4_addAll 34 = .ok (.iaload, 1) := by decide +kernel
theorem dX4_addAll_35 : decode cX4_addAll 35 = .ok (.invokevirtual 55, 3) := by decide +kernel
theorem dX4_addAll_38 : decode cX4_addAll 38 = .ok (.iinc 2 1, 3) := by decide +kernel
theorem dX4_addAll_41 : decode cX4_addAll 41 = .ok (.goto (-39), 3) := by decide +kernel
theorem dX4_addAll_44 : decode cX4_addAll 44 = .ok (.return_, 1) := by decide +kernel
theorem dX4_take_0 : decode cX4_take 0 = .ok (.aload_n 0, 1) := by decide +kernel
theorem dX4_take_1 : decode cX4_take 1 = .ok (.invokevirtual 59, 3) := by decide +kernel
theorem dX4_take_4 : decode cX4_take 4 = .ok (.aload_n 0, 1) := by decide +kernel
theorem dX4_take_5 : decode cX4_take 5 = .ok (.aload_n 1, 1) := by decide +kernel
theorem dX4_take_6 : decode cX4_take 6 = .ok (.invokevirtual 62, 3) := by decide +kernel
theorem dX4_take_9 : decode cX4_take 9 = .ok (.return_, 1) := by decide +kernel
theorem dX4_live_0 : decode cX4_live 0 = .ok (.aload_n 0, 1) := by decide +kernel
theorem dX4_live_1 : decode cX4_live 1 = .ok (.iload_n 1, 1) := by decide +kernel
theorem dX4_live_2 : decode cX4_live 2 = .ok (.invokevirtual 28, 3) := by decide +kernel
theorem dX4_live_5 : decode cX4_live 5 = .ok (.ifCond .eq 17, 3) := by decide +kernel
theorem dX4_live_8 : decode cX4_live 8 = .ok (.aload_n 0, 1) := by decide +kernel
theorem dX4_live_9 : decode cX4_live 9 = .ok (.getfield 18, 3) := by decide +kernel
theorem dX4_live_12 : decode cX4_live 12 = .ok (.iload_n 1, 1) := by decide +kernel
theorem dX4_live_13 : decode cX4_live 13 = .ok (.iload_n 2, 1) := by decide +kernel
theorem dX4_live_14 : decode cX4_live 14 = .ok (.iastore, 1) := by decide +kernel
theorem dX4_live_15 : decode cX4_live 15 = .ok (.aload_n 0, 1) := by decide +kernel
theorem dX4_live_16 : decode cX4_live 16 = .ok (.getfield 21, 3) := by decide +kernel
theorem dX4_live_19 : decode cX4_live 19 = .ok (.iload_n 1, 1) := by decide +kernel
theorem dX4_live_20 : decode cX4_live 20 = .ok (.iload_n 3, 1) := by decide +kernel
theorem dX4_live_21 : decode cX4_live 21 = .ok (.iastore, 1) := by decide +kernel
theorem dX4_live_22 : decode cX4_live 22 = .ok (.return_, 1) := by decide +kernel
theorem dX4_removeAt_0 : decode cX4_removeAt 0 = .ok (.aload_n 0, 1) := by decide +kernel
theorem dX4_removeAt_1 : decode cX4_removeAt 1 = .ok (.iload_n 1, 1) := by decide +kernel
theorem dX4_removeAt_2 : decode cX4_removeAt 2 = .ok (.invokevirtual 28, 3) := by decide +kernel
theorem dX4_removeAt_5 : decode cX4_removeAt 5 = .ok (.ifCond .ne 4, 3) := by decide +kernel
theorem dX4_removeAt_8 : decode cX4_removeAt 8 = .ok (.return_, 1) := by decide +kernel
theorem dX4_removeAt_9 : decode cX4_removeAt 9 = .ok (.iload_n 1, 1) := by decide +kernel
theorem dX4_removeAt_10 : decode cX4_removeAt 10 = .ok (.iconst 1, 1) := by decide +kernel
theorem dX4_removeAt_11 : decode cX4_removeAt 11 = .ok (.iadd, 1) := by decide +kernel
theorem dX4_removeAt_12 : decode cX4_removeAt 12 = .ok (.istore_n 2, 1) := by decide +kernel
theorem dX4_removeAt_13 : decode cX4_removeAt 13 = .ok (.iload_n 2, 1) := by decide +kernel
theorem dX4_removeAt_14 : decode cX4_removeAt 14 = .ok (.aload_n 0, 1) := by decide +kernel
theorem dX4_removeAt_15 : decode cX4_removeAt 15 = .ok (.getfield 24, 3) := by decide +kernel
theorem dX4_removeAt_18 : decode cX4_removeAt 18 = .ok (.if_icmp .ge 65, 3) := by decide +kernel
theorem dX4_removeAt_21 : decode cX4_removeAt 21 = .ok (.aload_n 0, 1) := by decide +kernel
theorem dX4_removeAt_22 : decode cX4_removeAt 22 = .ok (.getfield 9, 3) := by decide +kernel
theorem dX4_removeAt_25 : decode cX4_removeAt 25 = .ok (.iload_n 2, 1) := by decide +kernel
theorem dX4_removeAt_26 : decode cX4_removeAt 26 = .ok (.iconst 1, 1) := by decide +kernel
theorem dX4_removeAt_27 : decode cX4_removeAt 27 = .ok (.isub, 1) := by decide +kernel
theorem dX4_removeAt_28 : decode cX4_removeAt 28 = .ok (.aload_n 0, 1) := by decide +kernel
theorem dX4_removeAt_29 : decode cX4_removeAt 29 = .ok (.getfield 9, 3) := by decide +kernel
theorem dX4_removeAt_32 : decode cX4_removeAt 32 = .ok (.iload_n 2, 1) := by decide +kernel
theorem dX4_removeAt_33 : decode cX4_removeAt 33 = .ok (.iaload, 1) := by decide +kernel
theorem dX4_removeAt_34 : decode cX4_removeAt 34 = .ok (.iastore, 1) := by decide +kernel
theorem dX4_removeAt_35 : decode cX4_removeAt 35 = .ok (.aload_n 0, 1) := by decide +kernel
theorem dX4_removeAt_36 : decode cX4_removeAt 36 = .ok (.getfield 15, 3) := by decide +kernel
theorem dX4_removeAt_39 : decode cX4_removeAt 39 = .ok (.iload_n 2, 1) := by decide +kernel
theorem dX4_removeAt_40 : decode cX4_removeAt 40 = .ok (.iconst 1, 1) := by decide +kernel
theorem dX4_removeAt_41 : decode cX4_removeAt 41 = .ok (.isub, 1) := by decide +kernel
theorem dX4_removeAt_42 : decode cX4_removeAt 42 = .ok (.aload_n 0, 1) := by decide +kernel
theorem dX4_removeAt_43 : decode cX4_removeAt 43 = .ok (.getfield 15, 3) := by decide +kernel
theorem dX4_removeAt_46 : decode cX4_removeAt 46 = .ok (.iload_n 2, 1) := by decide +kernel
theorem dX4_removeAt_47 : decode cX4_removeAt 47 = .ok (.iaload, 1) := by decide +kernel
theorem dX4_removeAt_48 : decode cX4_removeAt 48 = .ok (.iastore, 1) := by decide +kernel
theorem dX4_removeAt_49 : decode cX4_removeAt 49 = .ok (.aload_n 0, 1) := by decide +kernel
theorem dX4_removeAt_50 : decode cX4_removeAt 50 = .ok (.getfield 18, 3) := by decide +kernel
theorem dX4_removeAt_53 : decode cX4_removeAt 53 = .ok (.iload_n 2, 1) := by decide +kernel
theorem dX4_removeAt_54 : decode cX4_removeAt 54 = .ok (.iconst 1, 1) := by decide +kernel
theorem dX4_removeAt_55 : decode cX4_removeAt 55 = .ok (.isub, 1) := by decide +kernel
theorem dX4_removeAt_56 : decode cX4_removeAt 56 = .ok (.aload_n 0, 1) := by decide +kernel
theorem dX4_removeAt_57 : decode cX4_removeAt 57 = .ok (.getfield 18, 3) := by decide +kernel
theorem dX4_removeAt_60 : decode cX4_removeAt 60 = .ok (.iload_n 2, 1) := by decide +kernel
theorem dX4_removeAt_61 : decode cX4_removeAt 61 = .ok (.iaload, 1) := by decide +kernel
theorem dX4_removeAt_62 : decode cX4_removeAt 62 = .ok (.iastore, 1) := by decide +kernel
theorem dX4_removeAt_63 : decode cX4_removeAt 63 = .ok (.aload_n 0, 1) := by decide +kernel
theorem dX4_removeAt_64 : decode cX4_removeAt 64 = .ok (.getfield 21, 3) := by decide +kernel
theorem dX4_removeAt_67 : decode cX4_removeAt 67 = .ok (.iload_n 2, 1) := by decide +kernel
theorem dX4_removeAt_68 : decode cX4_removeAt 68 = .ok (.iconst 1, 1) := by decide +kernel
theorem dX4_removeAt_69 : decode cX4_removeAt 69 = .ok (.isub, 1) := by decide +kernel
theorem dX4_removeAt_70 : decode cX4_removeAt 70 = .ok (.aload_n 0, 1) := by decide +kernel
theorem dX4_removeAt_71 : decode cX4_removeAt 71 = .ok (.getfield 21, 3) := by decide +kernel
theorem dX4_removeAt_74 : decode cX4_removeAt 74 = .ok (.iload_n 2, 1) := by decide +kernel
theorem dX4_removeAt_75 : decode cX4_removeAt 75 = .ok (.iaload, 1) := by decide +kernel
theorem dX4_removeAt_76 : decode cX4_removeAt 76 = .ok (.iastore, 1) := by decide +kernel
theorem dX4_removeAt_77 : decode cX4_removeAt 77 = .ok (.iinc 2 1, 3) := by decide +kernel
theorem dX4_removeAt_80 : decode cX4_removeAt 80 = .ok (.goto (-67), 3) := by decide +kernel
theorem dX4_removeAt_83 : decode cX4_removeAt 83 = .ok (.aload_n 0, 1) := by decide +kernel
theorem dX4_removeAt_84 : decode cX4_removeAt 84 = .ok (.dup, 1) := by decide +kernel
theorem dX4_removeAt_85 : decode cX4_removeAt 85 = .ok (.getfield 24, 3) := by decide +kernel
theorem dX4_removeAt_88 : decode cX4_removeAt 88 = .ok (.iconst 1, 1) := by decide +kernel
theorem dX4_removeAt_89 : decode cX4_removeAt 89 = .ok (.isub, 1) := by decide +kernel
theorem dX4_removeAt_90 : decode cX4_removeAt 90 = .ok (.putfield 24, 3) := by decide +kernel
theorem dX4_removeAt_93 : decode cX4_removeAt 93 = .ok (.return_, 1) := by decide +kernel
theorem dX4_removeLivingAt_0 : decode cX4_removeLivingAt 0 = .ok (.aload_n 0, 1) := by decide +kernel
theorem dX4_removeLivingAt_1 : decode cX4_removeLivingAt 1 = .ok (.getfield 24, 3) := by decide +kernel
theorem dX4_removeLivingAt_4 : decode cX4_removeLivingAt 4 = .ok (.iconst 1, 1) := by decide +kernel
theorem dX4_removeLivingAt_5 : decode cX4_removeLivingAt 5 = .ok (.isub, 1) := by decide +kernel
theorem dX4_removeLivingAt_6 : decode cX4_removeLivingAt 6 = .ok (.istore_n 2, 1) := by decide +kernel
theorem dX4_removeLivingAt_7 : decode cX4_removeLivingAt 7 = .ok (.iload_n 2, 1) := by decide +kernel
theorem dX4_removeLivingAt_8 : decode cX4_removeLivingAt 8 = .ok (.ifCond .lt 23, 3) := by decide +kernel
theorem dX4_removeLivingAt_11 : decode cX4_removeLivingAt 11 = .ok (.aload_n 0, 1) := by decide +kernel
theorem dX4_removeLivingAt_12 : decode cX4_removeLivingAt 12 = .ok (.iload_n 2, 1) := by decide +kernel
theorem dX4_removeLivingAt_13 : decode cX4_removeLivingAt 13 = .ok (.iload_n 1, 1) := by decide +kernel
theorem dX4_removeLivingAt_14 : decode cX4_removeLivingAt 14 = .ok (.invokevirtual 32, 3) := by decide +kernel
theorem dX4_removeLivingAt_17 : decode cX4_removeLivingAt 17 = .ok (.ifCond .eq 8, 3) := by decide +kernel
theorem dX4_removeLivingAt_20 : decode cX4_removeLivingAt 20 = .ok (.aload_n 0, 1) := by decide +kernel
theorem dX4_removeLivingAt_21 : decode cX4_removeLivingAt 21 = .ok (.iload_n 2, 1) := by decide +kernel
theorem dX4_removeLivingAt_22 : decode cX4_removeLivingAt 22 = .ok (.invokevirtual 66, 3) := by decide +kernel
theorem dX4_removeLivingAt_25 : decode cX4_removeLivingAt 25 = .ok (.iinc 2 (-1), 3) := by decide +kernel
theorem dX4_removeLivingAt_28 : decode cX4_removeLivingAt 28 = .ok (.goto (-21), 3) := by decide +kernel
theorem dX4_removeLivingAt_31 : decode cX4_removeLivingAt 31 = .ok (.return_, 1) := by decide +kernel
theorem dX8_init_0 : decode cX8_init 0 = .ok (.aload_n 0, 1) := by decide +kernel
theorem dX8_init_1 : decode cX8_init 1 = .ok (.invokespecial 3, 3) := by decide +kernel
theorem dX8_init_4 : decode cX8_init 4 = .ok (.return_, 1) := by decide +kernel
theorem dX8_many_0 : decode cX8_many 0 = .ok (.aload_n 0, 1) := by decide +kernel
theorem dX8_many_1 : decode cX8_many 1 = .ok (.getfield 9, 3) := by decide +kernel
theorem dX8_many_4 : decode cX8_many 4 = .ok (.ireturn, 1) := by decide +kernel
theorem dX8_first_0 : decode cX8_first 0 = .ok (.aload_n 0, 1) := by decide +kernel
theorem dX8_first_1 : decode cX8_first 1 = .ok (.getfield 15, 3) := by decide +kernel
theorem dX8_first_4 : decode cX8_first 4 = .ok (.ireturn, 1) := by decide +kernel
theorem dX8_last_0 : decode cX8_last 0 = .ok (.aload_n 0, 1) := by decide +kernel
theorem dX8_last_1 : decode cX8_last 1 = .ok (.getfield 18, 3) := by decide +kernel
theorem dX8_last_4 : decode cX8_last 4 = .ok (.ireturn, 1) := by decide +kernel
theorem dX8_longest_0 : decode cX8_longest 0 = .ok (.aload_n 0, 1) := by decide +kernel
theorem dX8_longest_1 : decode cX8_longest 1 = .ok (.getfield 21, 3) := by decide +kernel
theorem dX8_longest_4 : decode cX8_longest 4 = .ok (.ireturn, 1) := by decide +kernel
theorem dX8_longestBegin_0 : decode cX8_longestBegin 0 = .ok (.aload_n 0, 1) := by decide +kernel
theorem dX8_longestBegin_1 : decode cX8_longestBegin 1 = .ok (.getfield 24, 3) := by decide +kernel
theorem dX8_longestBegin_4 : decode cX8_longestBegin 4 = .ok (.ireturn, 1) := by decide +kernel
theorem dX8_empty_0 : decode cX8_empty 0 = .ok (.aload_n 0, 1) := by decide +kernel
theorem dX8_empty_1 : decode cX8_empty 1 = .ok (.iconst 0, 1) := by decide +kernel
theorem dX8_empty_2 : decode cX8_empty 2 = .ok (.putfield 9, 3) := by decide +kernel
theorem dX8_empty_5 : decode cX8_empty 5 = .ok (.aload_n 0, 1) := by decide +kernel
theorem dX8_empty_6 : decode cX8_empty 6 = .ok (.bipush (-5), 2) := by decide +kernel
theorem dX8_empty_8 : decode cX8_empty 8 = .ok (.putfield 15, 3) := by decide +kernel
theorem dX8_empty_11 : decode cX8_empty 11 = .ok (.aload_n 0, 1) := by decide +kernel
theorem dX8_empty_12 : decode cX8_empty 12 = .ok (.bipush (-5), 2) := by decide +kernel
theorem dX8_empty_14 : decode cX8_empty 14 = .ok (.putfield 18, 3) := by decide +kernel
theorem dX8_empty_17 : decode cX8_empty 17 = .ok (.aload_n 0, 1) := by decide +kernel
theorem dX8_empty_18 : decode cX8_empty 18 = .ok (.iconst 0, 1) := by decide +kernel
theorem dX8_empty_19 : decode cX8_empty 19 = .ok (.putfield 27, 3) := by decide +kernel
theorem dX8_empty_22 : decode cX8_empty 22 = .ok (.aload_n 0, 1) := by decide +kernel
theorem dX8_empty_23 : decode cX8_empty 23 = .ok (.iconst 0, 1) := by decide +kernel
theorem dX8_empty_24 : decode cX8_empty 24 = .ok (.putfield 21, 3) := by decide +kernel
theorem dX8_empty_27 : decode cX8_empty 27 = .ok (.aload_n 0, 1) := by decide +kernel
theorem dX8_empty_28 : decode cX8_empty 28 = .ok (.bipush (-5), 2) := by decide +kernel
theorem dX8_empty_30 : decode cX8_empty 30 = .ok (.putfield 24, 3) := by decide +kernel
theorem dX8_empty_33 : decode cX8_empty 33 = .ok (.return_, 1) := by decide +kernel
theorem dX8_add_0 : decode cX8_add 0 = .ok (.aload_n 0, 1) := by decide +kernel
theorem dX8_add_1 : decode cX8_add 1 = .ok (.getfield 9, 3) := by decide +kernel
theorem dX8_add_4 : decode cX8_add 4 = .ok (.ifCond .le 17, 3) := by decide +kernel
theorem dX8_add_7 : decode cX8_add 7 = .ok (.iload_n 1, 1) := by decide +kernel
theorem dX8_add_8 : decode cX8_add 8 = .ok (.aload_n 0, 1) := by decide +kernel
theorem dX8_add_9 : decode cX8_add 9 = .ok (.getfield 18, 3) := by decide +kernel
theorem dX8_add_12 : decode cX8_add 12 = .ok (.iconst 1, 1) := by decide +kernel
theorem dX8_add_13 : decode cX8_add 13 = .ok (.iadd, 1) := by decide +kernel
theorem dX8_add_14 : decode cX8_add 14 = .ok (.if_icmp .ne 7, 3) := by decide +kernel
theorem dX8_add_17 : decode cX8_add 17 = .ok (.iconst 1, 1) := by decide +kernel
theorem dX8_add_18 : decode cX8_add 18 = .ok (.goto 4, 3) := by decide +kernel
theorem dX8_add_21 : decode cX8_add 21 = .ok (.iconst 0, 1) := by decide +kernel
theorem dX8_add_22 : decode cX8_add 22 = .ok (.istore_n 2, 1) := by decide +kernel
theorem dX8_add_23 : decode cX8_add 23 = .ok (.aload_n 0, 1) := by decide +kernel
theorem dX8_add_24 : decode cX8_add 24 = .ok (.iload_n 2, 1) := by decide +kernel
theorem dX8_add_25 : decode cX8_add 25 = .ok (.ifCond .eq 12, 3) := by decide +kernel
theorem dX8_add_28 : decode cX8_add 28 = .ok (.aload_n 0, 1) := by decide +kernel
theorem dX8_add_29 : decode cX8_add 29 = .ok (.getfield 27, 3) := by decide +kernel
theorem dX8_add_32 : decode cX8_add 32 = .ok (.iconst 1, 1) := by decide +kernel
theorem dX8_add_33 : decode cX8_add 33 = .ok (.iadd, 1) := by decide +kernel
theorem dX8_add_34 : decode cX8_add 34 = .ok (.goto 4, 3) := by decide +kernel
theorem dX8_add_37 : decode cX8_add 37 = .ok (.iconst 1, 1) := by decide +kernel
theorem dX8_add_38 : decode cX8_add 38 = .ok (.putfield 27, 3) := by decide +kernel
theorem dX8_add_41 : decode cX8_add 41 = .ok (.aload_n 0, 1) := by decide +kernel
theorem dX8_add_42 : decode cX8_add 42 = .ok (.getfield 9, 3) := by decide +kernel
theorem dX8_add_45 : decode cX8_add 45 = .ok (.ifCond .ne 8, 3) := by decide +kernel
theorem dX8_add_48 : decode cX8_add 48 = .ok (.aload_n 0, 1) := by decide +kernel
theorem dX8_add_49 : decode cX8_add 49 = .ok (.iload_n 1, 1) := by decide +kernel
theorem dX8_add_50 : decode cX8_add 50 = .ok (.putfield 15, 3) := by decide +kernel
theorem dX8_add_53 : decode cX8_add 53 = .ok (.aload_n 0, 1) := by decide +kernel
theorem dX8_add_54 : decode cX8_add 54 = .ok (.dup, 1) := by decide +kernel
theorem dX8_add_55 : decode cX8_add 55 = .ok (.getfield 9, 3) := by decide +kernel
theorem dX8_add_58 : decode cX8_add 58 = .ok (.iconst 1, 1) := by decide +kernel
theorem dX8_add_59 : decode cX8_add 59 = .ok (.iadd, 1) := by decide +kernel
theorem dX8_add_60 : decode cX8_add 60 = .ok (.putfield 9, 3) := by decide +kernel
theorem dX8_add_63 : decode cX8_add 63 = .ok (.aload_n 0, 1) := by decide +kernel
theorem dX8_add_64 : decode cX8_add 64 = .ok (.iload_n 1, 1) := by decide +kernel
theorem dX8_add_65 : decode cX8_add 65 = .ok (.putfield 18, 3) := by decide +kernel
theorem dX8_add_68 : decode cX8_add 68 = .ok (.aload_n 0, 1) := by decide +kernel
theorem dX8_add_69 : decode cX8_add 69 = .ok (.getfield 27, 3) := by decide +kernel
theorem dX8_add_72 : decode cX8_add 72 = .ok (.aload_n 0, 1) := by decide +kernel
theorem dX8_add_73 : decode cX8_add 73 = .ok (.getfield 21, 3) := by decide +kernel
theorem dX8_add_76 : decode cX8_add 76 = .ok (.if_icmp .le 23, 3) := by decide +kernel
theorem dX8_add_79 : decode cX8_add 79 = .ok (.aload_n 0, 1) := by decide +kernel
theorem dX8_add_80 : decode cX8_add 80 = .ok (.aload_n 0, 1) := by decide +kernel
theorem dX8_add_81 : decode cX8_add 81 = .ok (.getfield 27, 3) := by decide +kernel
theorem dX8_add_84 : decode cX8_add 84 = .ok (.putfield 21, 3) := by decide +kernel
theorem dX8_add_87 : decode cX8_add 87 = .ok (.aload_n 0, 1) := by decide +kernel
theorem dX8_add_88 : decode cX8_add 88 = .ok (.iload_n 1, 1) := by decide +kernel
theorem dX8_add_89 : decode cX8_add 89 = .ok (.aload_n 0, 1) := by decide +kernel
theorem dX8_add_90 : decode cX8_add 90 = .ok (.getfield 27, 3) := by decide +kernel
theorem dX8_add_93 : decode cX8_add 93 = .ok (.isub, 1) := by decide +kernel
theorem dX8_add_94 : decode cX8_add 94 = .ok (.iconst 1, 1) := by decide +kernel
theorem dX8_add_95 : decode cX8_add 95 = .ok (.iadd, 1) := by decide +kernel
theorem dX8_add_96 : decode cX8_add 96 = .ok (.putfield 24, 3) := by decide +kernel
theorem dX8_add_99 : decode cX8_add 99 = .ok (.return_, 1) := by decide +kernel
theorem dX5_init_0 : decode cX5_init 0 = .ok (.aload_n 0, 1) := by decide +kernel
theorem dX5_init_1 : decode cX5_init 1 = .ok (.invokespecial 3, 3) := by decide +kernel
theorem dX5_init_4 : decode cX5_init 4 = .ok (.aload_n 0, 1) := by decide +kernel
theorem dX5_init_5 : decode cX5_init 5 = .ok (.new 9, 3) := by decide +kernel
theorem dX5_init_8 : decode cX5_init 8 = .ok (.dup, 1) := by decide +kernel
theorem dX5_init_9 : decode cX5_init 9 = .ok (.bipush 16, 2) := by decide +kernel
theorem dX5_init_11 : decode cX5_init 11 = .ok (.invokespecial 11, 3) := by decide +kernel
theorem dX5_init_14 : decode cX5_init 14 = .ok (.putfield 14, 3) := by decide +kernel
theorem dX5_init_17 : decode cX5_init 17 = .ok (.aload_n 0, 1) := by decide +kernel
theorem dX5_init_18 : decode cX5_init 18 = .ok (.new 9, 3) := by decide +kernel
theorem dX5_init_21 : decode cX5_init 21 = .ok (.dup, 1) := by decide +kernel
theorem dX5_init_22 : decode cX5_init 22 = .ok (.bipush 32, 2) := by decide +kernel
theorem dX5_init_24 : decode cX5_init 24 = .ok (.invokespecial 11, 3) := by decide +kernel
theorem dX5_init_27 : decode cX5_init 27 = .ok (.putfield 20, 3) := by decide +kernel
theorem dX5_init_30 : decode cX5_init 30 = .ok (.return_, 1) := by decide +kernel
theorem dX5_joinWithout_0 : decode cX5_joinWithout 0 = .ok (.aload_n 0, 1) := by decide +kernel
theorem dX5_joinWithout_1 : decode cX5_joinWithout 1 = .ok (.getfield 14, 3) := by decide +kernel
theorem dX5_joinWithout_4 : decode cX5_joinWithout 4 = .ok (.iconst 0, 1) := by decide +kernel
theorem dX5_joinWithout_5 : decode cX5_joinWithout 5 = .ok (.invokevirtual 23, 3) := by decide +kernel
theorem dX5_joinWithout_8 : decode cX5_joinWithout 8 = .ok (.iconst 0, 1) := by decide +kernel
theorem dX5_joinWithout_9 : decode cX5_joinWithout 9 = .ok (.istore 4, 2) := by decide +kernel
theorem dX5_joinWithout_11 : decode cX5_joinWithout 11 = .ok (.iload 4, 2) := by decide +kernel
theorem dX5_joinWithout_13 : decode cX5_joinWithout 13 = .ok (.aload_n 1, 1) := by decide +kernel
theorem dX5_joinWithout_14 : decode cX5_joinWithout 14 = .ok (.invokevirtual 26, 3) := by decide +kernel
theorem dX5_joinWithout_17 : decode cX5_joinWithout 17 = .ok (.if_icmp .ge 44, 3) := by decide +kernel
theorem dX5_joinWithout_20 : decode cX5_joinWithout 20 = .ok (.iload 4, 2) := by decide +kernel
theorem dX5_joinWithout_22 : decode cX5_joinWithout 22 = .ok (.iload_n 2, 1) := by decide +kernel
theorem dX5_joinWithout_23 : decode cX5_joinWithout 23 = .ok (.if_icmp .eq 32, 3) := by decide +kernel
theorem dX5_joinWithout_26 : decode cX5_joinWithout 26 = .ok (.aload_n 1, 1) := by decide +kernel
theorem dX5_joinWithout_27 : decode cX5_joinWithout 27 = .ok (.iload 4, 2) := by decide +kernel
theorem dX5_joinWithout_29 : decode cX5_joinWithout 29 = .ok (.iload_n 3, 1) := by decide +kernel
theorem dX5_joinWithout_30 : decode cX5_joinWithout 30 = .ok (.invokevirtual 32, 3) := by decide +kernel
theorem dX5_joinWithout_33 : decode cX5_joinWithout 33 = .ok (.ifCond .eq 22, 3) := by decide +kernel
theorem dX5_joinWithout_36 : decode cX5_joinWithout 36 = .ok (.aload_n 0, 1) := by decide +kernel
theorem dX5_joinWithout_37 : decode cX5_joinWithout 37 = .ok (.getfield 14, 3) := by decide +kernel
theorem dX5_joinWithout_40 : decode cX5_joinWithout 40 = .ok (.aload_n 1, 1) := by decide +kernel
theorem dX5_joinWithout_41 : decode cX5_joinWithout 41 = .ok (.iload 4, 2) := by decide +kernel
theorem dX5_joinWithout_43 : decode cX5_joinWithout 43 = .ok (.invokevirtual 36, 3) := by decide +kernel
theorem dX5_joinWithout_46 : decode cX5_joinWithout 46 = .ok (.aload_n 1, 1) := by decide +kernel
theorem dX5_joinWithout_47 : decode cX5_joinWithout 47 = .ok (.iload 4, 2) := by decide +kernel
theorem dX5_joinWithout_49 : decode cX5_joinWithout 49 = .ok (.invokevirtual 40, 3) := by decide +kernel
theorem dX5_joinWithout_52 : decode cX5_joinWithout 52 = .ok (.invokevirtual 43, 3) := by decide +kernel
theorem dX5_joinWithout_55 : decode cX5_joinWithout 55 = .ok (.iinc 4 1, 3) := by decide +kernel
theorem dX5_joinWithout_58 : decode cX5_joinWithout 58 = .ok (.goto (-47), 3) := by decide +kernel
theorem dX5_joinWithout_61 : decode cX5_joinWithout 61 = .ok (.return_, 1) := by decide +kernel
theorem dX5_areJoinedAt_0 : decode cX5_areJoinedAt 0 = .ok (.aload_n 0, 1) := by decide +kernel
theorem dX5_areJoinedAt_1 : decode cX5_areJoinedAt 1 = .ok (.aload_n 1, 1) := by decide +kernel
theorem dX5_areJoinedAt_2 : decode cX5_areJoinedAt 2 = .ok (.iconst (-1), 1) := by decide +kernel
theorem dX5_areJoinedAt_3 : decode cX5_areJoinedAt 3 = .ok (.iload_n 2, 1) := by decide +kernel
theorem dX5_areJoinedAt_4 : decode cX5_areJoinedAt 4 = .ok (.invokevirtual 47, 3) := by decide +kernel
theorem dX5_areJoinedAt_7 : decode cX5_areJoinedAt 7 = .ok (.aload_n 0, 1) := by decide +kernel
theorem dX5_areJoinedAt_8 : decode cX5_areJoinedAt 8 = .ok (.getfield 14, 3) := by decide +kernel
theorem dX5_areJoinedAt_11 : decode cX5_areJoinedAt 11 = .ok (.iload_n 3, 1) := by decide +kernel
theorem dX5_areJoinedAt_12 : decode cX5_areJoinedAt 12 = .ok (.iload 4, 2) := by decide +kernel
theorem dX5_areJoinedAt_14 : decode cX5_areJoinedAt 14 = .ok (.invokevirtual 51, 3) := by decide +kernel
theorem dX5_areJoinedAt_17 : decode cX5_areJoinedAt 17 = .ok (.ireturn, 1) := by decide +kernel
theorem dX5_partsAt_0 : decode cX5_partsAt 0 = .ok (.aload_n 0, 1) := by decide +kernel
theorem dX5_partsAt_1 : decode cX5_partsAt 1 = .ok (.aload_n 1, 1) := by decide +kernel
theorem dX5_partsAt_2 : decode cX5_partsAt 2 = .ok (.iconst (-1), 1) := by decide +kernel
theorem dX5_partsAt_3 : decode cX5_partsAt 3 = .ok (.iload_n 2, 1) := by decide +kernel
theorem dX5_partsAt_4 : decode cX5_partsAt 4 = .ok (.invokevirtual 47, 3) := by decide +kernel
theorem dX5_partsAt_7 : decode cX5_partsAt 7 = .ok (.bipush 16, 2) := by decide +kernel
theorem dX5_partsAt_9 : decode cX5_partsAt 9 = .ok (.aload_n 0, 1) := by decide +kernel
theorem dX5_partsAt_10 : decode cX5_partsAt 10 = .ok (.getfield 14, 3) := by decide +kernel
theorem dX5_partsAt_13 : decode cX5_partsAt 13 = .ok (.invokevirtual 54, 3) := by decide +kernel
theorem dX5_partsAt_16 : decode cX5_partsAt 16 = .ok (.isub, 1) := by decide +kernel
theorem dX5_partsAt_17 : decode cX5_partsAt 17 = .ok (.ireturn, 1) := by decide +kernel
theorem dX5_lowestOfPartAt_0 : decode cX5_lowestOfPartAt 0 = .ok (.aload_n 0, 1) := by decide +kernel
theorem dX5_lowestOfPartAt_1 : decode cX5_lowestOfPartAt 1 = .ok (.aload_n 1, 1) := by decide +kernel
theorem dX5_lowestOfPartAt_2 : decode cX5_lowestOfPartAt 2 = .ok (.iconst (-1), 1) := by decide +kernel
theorem dX5_lowestOfPartAt_3 : decode cX5_lowestOfPartAt 3 = .ok (.iload_n 2, 1) := by decide +kernel
theorem dX5_lowestOfPartAt_4 : decode cX5_lowestOfPartAt 4 = .ok (.invokevirtual 47, 3) := by decide +kernel
theorem dX5_lowestOfPartAt_7 : decode cX5_lowestOfPartAt 7 = .ok (.iconst 0, 1) := by decide +kernel
theorem dX5_lowestOfPartAt_8 : decode cX5_lowestOfPartAt 8 = .ok (.istore 4, 2) := by decide +kernel
theorem dX5_lowestOfPartAt_10 : decode cX5_lowestOfPartAt 10 = .ok (.iload 4, 2) := by decide +kernel
theorem dX5_lowestOfPartAt_12 : decode cX5_lowestOfPartAt 12 = .ok (.iload_n 3, 1) := by decide +kernel
theorem dX5_lowestOfPartAt_13 : decode cX5_lowestOfPartAt 13 = .ok (.if_icmp .ge 25, 3) := by decide +kernel
theorem dX5_lowestOfPartAt_16 : decode cX5_lowestOfPartAt 16 = .ok (.aload_n 0, 1) := by decide +kernel
theorem dX5_lowestOfPartAt_17 : decode cX5_lowestOfPartAt 17 = .ok (.getfield 14, 3) := by decide +kernel
theorem dX5_lowestOfPartAt_20 : decode cX5_lowestOfPartAt 20 = .ok (.iload_n 3, 1) := by decide +kernel
theorem dX5_lowestOfPartAt_21 : decode cX5_lowestOfPartAt 21 = .ok (.iload 4, 2) := by decide +kernel
theorem dX5_lowestOfPartAt_23 : decode cX5_lowestOfPartAt 23 = .ok (.invokevirtual 51, 3) := by decide +kernel
theorem dX5_lowestOfPartAt_26 : decode cX5_lowestOfPartAt 26 = .ok (.ifCond .eq 6, 3) := by decide +kernel
theorem dX5_lowestOfPartAt_29 : decode cX5_lowestOfPartAt 29 = .ok (.iload 4, 2) := by decide +kernel
theorem dX5_lowestOfPartAt_31 : decode cX5_lowestOfPartAt 31 = .ok (.ireturn, 1) := by decide +kernel
theorem dX5_lowestOfPartAt_32 : decode cX5_lowestOfPartAt 32 = .ok (.iinc 4 1, 3) := by decide +kernel
theorem dX5_lowestOfPartAt_35 : decode cX5_lowestOfPartAt 35 = .ok (.goto (-25), 3) := by decide +kernel
theorem dX5_lowestOfPartAt_38 : decode cX5_lowestOfPartAt 38 = .ok (.iload_n 3, 1) := by decide +kernel
theorem dX5_lowestOfPartAt_39 : decode cX5_lowestOfPartAt 39 = .ok (.ireturn, 1) := by decide +kernel
theorem dX5_partSizeAt_0 : decode cX5_partSizeAt 0 = .ok (.aload_n 0, 1) := by decide +kernel
theorem dX5_partSizeAt_1 : decode cX5_partSizeAt 1 = .ok (.aload_n 1, 1) := by decide +kernel
theorem dX5_partSizeAt_2 : decode cX5_partSizeAt 2 = .ok (.iconst (-1), 1) := by decide +kernel
theorem dX5_partSizeAt_3 : decode cX5_partSizeAt 3 = .ok (.iload_n 2, 1) := by decide +kernel
theorem dX5_partSizeAt_4 : decode cX5_partSizeAt 4 = .ok (.invokevirtual 47, 3) := by decide +kernel
theorem dX5_partSizeAt_7 : decode cX5_partSizeAt 7 = .ok (.aload_n 0, 1) := by decide +kernel
theorem dX5_partSizeAt_8 : decode cX5_partSizeAt 8 = .ok (.getfield 14, 3) := by decide +kernel
theorem dX5_partSizeAt_11 : decode cX5_partSizeAt 11 = .ok (.iload_n 3, 1) := by decide +kernel
theorem dX5_partSizeAt_12 : decode cX5_partSizeAt 12 = .ok (.invokevirtual 57, 3) := by decide +kernel
theorem dX5_partSizeAt_15 : decode cX5_partSizeAt 15 = .ok (.ireturn, 1) := by decide +kernel
theorem dX5_partBitsAt_0 : decode cX5_partBitsAt 0 = .ok (.aload_n 0, 1) := by decide +kernel
theorem dX5_partBitsAt_1 : decode cX5_partBitsAt 1 = .ok (.aload_n 1, 1) := by decide +kernel
theorem dX5_partBitsAt_2 : decode cX5_partBitsAt 2 = .ok (.iconst (-1), 1) := by decide +kernel
theorem dX5_partBitsAt_3 : decode cX5_partBitsAt 3 = .ok (.iload_n 2, 1) := by decide +kernel
theorem dX5_partBitsAt_4 : decode cX5_partBitsAt 4 = .ok (.invokevirtual 47, 3) := by decide +kernel
theorem dX5_partBitsAt_7 : decode cX5_partBitsAt 7 = .ok (.iconst 0, 1) := by decide +kernel
theorem dX5_partBitsAt_8 : decode cX5_partBitsAt 8 = .ok (.istore 4, 2) := by decide +kernel
theorem dX5_partBitsAt_10 : decode cX5_partBitsAt 10 = .ok (.iconst 0, 1) := by decide +kernel
theorem dX5_partBitsAt_11 : decode cX5_partBitsAt 11 = .ok (.istore 5, 2) := by decide +kernel
theorem dX5_partBitsAt_13 : decode cX5_partBitsAt 13 = .ok (.iload 5, 2) := by decide +kernel
theorem dX5_partBitsAt_15 : decode cX5_partBitsAt 15 = .ok (.bipush 16, 2) := by decide +kernel
theorem dX5_partBitsAt_17 : decode cX5_partBitsAt 17 = .ok (.if_icmp .ge 31, 3) := by decide +kernel
theorem dX5_partBitsAt_20 : decode cX5_partBitsAt 20 = .ok (.aload_n 0, 1) := by decide +kernel
theorem dX5_partBitsAt_21 : decode cX5_partBitsAt 21 = .ok (.getfield 14, 3) := by decide +kernel
theorem dX5_partBitsAt_24 : decode cX5_partBitsAt 24 = .ok (.iload_n 3, 1) := by decide +kernel
theorem dX5_partBitsAt_25 : decode cX5_partBitsAt 25 = .ok (.iload 5, 2) := by decide +kernel
theorem dX5_partBitsAt_27 : decode cX5_partBitsAt 27 = .ok (.invokevirtual 51, 3) := by decide +kernel
theorem dX5_partBitsAt_30 : decode cX5_partBitsAt 30 = .ok (.ifCond .eq 12, 3) := by decide +kernel
theorem dX5_partBitsAt_33 : decode cX5_partBitsAt 33 = .ok (.iload 4, 2) := by decide +kernel
theorem dX5_partBitsAt_35 : decode cX5_partBitsAt 35 = .ok (.iconst 1, 1) := by decide +kernel
theorem dX5_partBitsAt_36 : decode cX5_partBitsAt 36 = .ok (.iload 5, 2) := by decide +kernel
theorem dX5_partBitsAt_38 : decode cX5_partBitsAt 38 = .ok (.ishl, 1) := by decide +kernel
theorem dX5_partBitsAt_39 : decode cX5_partBitsAt 39 = .ok (.ior, 1) := by decide +kernel
theorem dX5_partBitsAt_40 : decode cX5_partBitsAt 40 = .ok (.istore 4, 2) := by decide +kernel
theorem dX5_partBitsAt_42 : decode cX5_partBitsAt 42 = .ok (.iinc 5 1, 3) := by decide +kernel
theorem dX5_partBitsAt_45 : decode cX5_partBitsAt 45 = .ok (.goto (-32), 3) := by decide +kernel
theorem dX5_partBitsAt_48 : decode cX5_partBitsAt 48 = .ok (.iload 4, 2) := by decide +kernel
theorem dX5_partBitsAt_50 : decode cX5_partBitsAt 50 = .ok (.ireturn, 1) := by decide +kernel
theorem dX5_greatestPartAt_0 : decode cX5_greatestPartAt 0 = .ok (.aload_n 0, 1) := by decide +kernel
theorem dX5_greatestPartAt_1 : decode cX5_greatestPartAt 1 = .ok (.aload_n 1, 1) := by decide +kernel
theorem dX5_greatestPartAt_2 : decode cX5_greatestPartAt 2 = .ok (.iconst (-1), 1) := by decide +kernel
theorem dX5_greatestPartAt_3 : decode cX5_greatestPartAt 3 = .ok (.iload_n 2, 1) := by decide +kernel
theorem dX5_greatestPartAt_4 : decode cX5_greatestPartAt 4 = .ok (.invokevirtual 47, 3) := by decide +kernel
theorem dX5_greatestPartAt_7 : decode cX5_greatestPartAt 7 = .ok (.iconst 0, 1) := by decide +kernel
theorem dX5_greatestPartAt_8 : decode cX5_greatestPartAt 8 = .ok (.istore_n 3, 1) := by decide +kernel
theorem dX5_greatestPartAt_9 : decode cX5_greatestPartAt 9 = .ok (.iconst 0, 1) := by decide +kernel
theorem dX5_greatestPartAt_10 : decode cX5_greatestPartAt 10 = .ok (.istore 4, 2) := by decide +kernel
theorem dX5_greatestPartAt_12 : decode cX5_greatestPartAt 12 = .ok (.iload 4, 2) := by decide +kernel
theorem dX5_greatestPartAt_14 : decode cX5_greatestPartAt 14 = .ok (.bipush 16, 2) := by decide +kernel
theorem dX5_greatestPartAt_16 : decode cX5_greatestPartAt 16 = .ok (.if_icmp .ge 23, 3) := by decide +kernel
theorem dX5_greatestPartAt_19 : decode cX5_greatestPartAt 19 = .ok (.iload_n 3, 1) := by decide +kernel
theorem dX5_greatestPartAt_20 : decode cX5_greatestPartAt 20 = .ok (.aload_n 0, 1) := by decide +kernel
theorem dX5_greatestPartAt_21 : decode cX5_greatestPartAt 21 = .ok (.getfield 14, 3) := by decide +kernel
theorem dX5_greatestPartAt_24 : decode cX5_greatestPartAt 24 = .ok (.iload 4, 2) := by decide +kernel
theorem dX5_greatestPartAt_26 : decode cX5_greatestPartAt 26 = .ok (.invokevirtual 57, 3) := by decide +kernel
theorem dX5_greatestPartAt_29 : decode cX5_greatestPartAt 29 = .ok (.invokestatic 60, 3) := by decide +kernel
theorem dX5_greatestPartAt_32 : decode cX5_greatestPartAt 32 = .ok (.istore_n 3, 1) := by decide +kernel
theorem dX5_greatestPartAt_33 : decode cX5_greatestPartAt 33 = .ok (.iinc 4 1, 3) := by decide +kernel
theorem dX5_greatestPartAt_36 : decode cX5_greatestPartAt 36 = .ok (.goto (-24), 3) := by decide +kernel
theorem dX5_greatestPartAt_39 : decode cX5_greatestPartAt 39 = .ok (.iload_n 3, 1) := by decide +kernel
theorem dX5_greatestPartAt_40 : decode cX5_greatestPartAt 40 = .ok (.ireturn, 1) := by decide +kernel
theorem dX5_linklessPointsAt_0 : decode cX5_linklessPointsAt 0 = .ok (.aload_n 0, 1) := by decide +kernel
theorem dX5_linklessPointsAt_1 : decode cX5_linklessPointsAt 1 = .ok (.aload_n 1, 1) := by decide +kernel
theorem dX5_linklessPointsAt_2 : decode cX5_linklessPointsAt 2 = .ok (.iconst (-1), 1) := by decide +kernel
theorem dX5_linklessPointsAt_3 : decode cX5_linklessPointsAt 3 = .ok (.iload_n 2, 1) := by decide +kernel
theorem dX5_linklessPointsAt_4 : decode cX5_linklessPointsAt 4 = .ok (.invokevirtual 47, 3) := by decide +kernel
theorem dX5_linklessPointsAt_7 : decode cX5_linklessPointsAt 7 = .ok (.iconst 0, 1) := by decide +kernel
theorem dX5_linklessPointsAt_8 : decode cX5_linklessPointsAt 8 = .ok (.istore_n 3, 1) := by decide +kernel
theorem dX5_linklessPointsAt_9 : decode cX5_linklessPointsAt 9 = .ok (.iconst 0, 1) := by decide +kernel
theorem dX5_linklessPointsAt_10 : decode cX5_linklessPointsAt 10 = .ok (.istore 4, 2) := by decide +kernel
theorem dX5_linklessPointsAt_12 : decode cX5_linklessPointsAt 12 = .ok (.iload 4, 2) := by decide +kernel
theorem dX5_linklessPointsAt_14 : decode cX5_linklessPointsAt 14 = .ok (.bipush 16, 2) := by decide +kernel
theorem dX5_linklessPointsAt_16 : decode cX5_linklessPointsAt 16 = .ok (.if_icmp .ge 25, 3) := by decide +kernel
theorem dX5_linklessPointsAt_19 : decode cX5_linklessPointsAt 19 = .ok (.aload_n 0, 1) := by decide +kernel
theorem dX5_linklessPointsAt_20 : decode cX5_linklessPointsAt 20 = .ok (.getfield 14, 3) := by decide +kernel
theorem dX5_linklessPointsAt_23 : decode cX5_linklessPointsAt 23 = .ok (.iload 4, 2) := by decide +kernel
theorem dX5_linklessPointsAt_25 : decode cX5_linklessPointsAt 25 = .ok (.invokevirtual 57, 3) := by decide +kernel
theorem dX5_linklessPointsAt_28 : decode cX5_linklessPointsAt 28 = .ok (.iconst 1, 1) := by decide +kernel
theorem dX5_linklessPointsAt_29 : decode cX5_linklessPointsAt 29 = .ok (.if_icmp .ne 6, 3) := by decide +kernel
theorem dX5_linklessPointsAt_32 : decode cX5_linklessPointsAt 32 = .ok (.iinc 3 1, 3) := by decide +kernel
theorem dX5_linklessPointsAt_35 : decode cX5_linklessPointsAt 35 = .ok (.iinc 4 1, 3) := by decide +kernel
theorem dX5_linklessPointsAt_38 : decode cX5_linklessPointsAt 38 = .ok (.goto (-26), 3) := by decide +kernel
theorem dX5_linklessPointsAt_41 : decode cX5_linklessPointsAt 41 = .ok (.iload_n 3, 1) := by decide +kernel
theorem dX5_linklessPointsAt_42 : decode cX5_linklessPointsAt 42 = .ok (.ireturn, 1) := by decide +kernel
theorem dX5_isNeededAt_0 : decode cX5_isNeededAt 0 = .ok (.aload_n 1, 1) := by decide +kernel
theorem dX5_isNeededAt_1 : decode cX5_isNeededAt 1 = .ok (.iload_n 2, 1) := by decide +kernel
theorem dX5_isNeededAt_2 : decode cX5_isNeededAt 2 = .ok (.iload_n 3, 1) := by decide +kernel
theorem dX5_isNeededAt_3 : decode cX5_isNeededAt 3 = .ok (.invokevirtual 32, 3) := by decide +kernel
theorem dX5_isNeededAt_6 : decode cX5_isNeededAt 6 = .ok (.ifCond .ne 5, 3) := by decide +kernel
theorem dX5_isNeededAt_9 : decode cX5_isNeededAt 9 = .ok (.iconst 0, 1) := by decide +kernel
theorem dX5_isNeededAt_10 : decode cX5_isNeededAt 10 = .ok (.ireturn, 1) := by decide +kernel
theorem dX5_isNeededAt_11 : decode cX5_isNeededAt 11 = .ok (.aload_n 0, 1) := by decide +kernel
theorem dX5_isNeededAt_12 : decode cX5_isNeededAt 12 = .ok (.aload_n 1, 1) := by decide +kernel
theorem dX5_isNeededAt_13 : decode cX5_isNeededAt 13 = .ok (.iload_n 2, 1) := by decide +kernel
theorem dX5_isNeededAt_14 : decode cX5_isNeededAt 14 = .ok (.iload_n 3, 1) := by decide +kernel
theorem dX5_isNeededAt_15 : decode cX5_isNeededAt 15 = .ok (.invokevirtual 47, 3) := by decide +kernel
theorem dX5_isNeededAt_18 : decode cX5_isNeededAt 18 = .ok (.aload_n 0, 1) := by decide +kernel
theorem dX5_isNeededAt_19 : decode cX5_isNeededAt 19 = .ok (.getfield 14, 3) := by decide +kernel
theorem dX5_isNeededAt_22 : decode cX5_isNeededAt 22 = .ok (.aload_n 1, 1) := by decide +kernel
theorem dX5_isNeededAt_23 : decode cX5_isNeededAt 23 = .ok (.iload_n 2, 1) := by decide +kernel
theorem dX5_isNeededAt_24 : decode cX5_isNeededAt 24 = .ok (.invokevirtual 36, 3) := by decide +kernel
theorem dX5_isNeededAt_27 : decode cX5_isNeededAt 27 = .ok (.aload_n 1, 1) := by decide +kernel
theorem dX5_isNeededAt_28 : decode cX5_isNeededAt 28 = .ok (.iload_n 2, 1) := by decide +kernel
theorem dX5_isNeededAt_29 : decode cX5_isNeededAt 29 = .ok (.invokevirtual 40, 3) := by decide +kernel
theorem dX5_isNeededAt_32 : decode cX5_isNeededAt 32 = .ok (.invokevirtual 51, 3) := by decide +kernel
theorem dX5_isNeededAt_35 : decode cX5_isNeededAt 35 = .ok (.ifCond .ne 7, 3) := by decide +kernel
theorem dX5_isNeededAt_38 : decode cX5_isNeededAt 38 = .ok (.iconst 1, 1) := by decide +kernel
theorem dX5_isNeededAt_39 : decode cX5_isNeededAt 39 = .ok (.goto 4, 3) := by decide +kernel
theorem dX5_isNeededAt_42 : decode cX5_isNeededAt 42 = .ok (.iconst 0, 1) := by decide +kernel
theorem dX5_isNeededAt_43 : decode cX5_isNeededAt 43 = .ok (.ireturn, 1) := by decide +kernel
theorem dX5_neededLinksAt_0 : decode cX5_neededLinksAt 0 = .ok (.iconst 0, 1) := by decide +kernel
theorem dX5_neededLinksAt_1 : decode cX5_neededLinksAt 1 = .ok (.istore_n 3, 1) := by decide +kernel
theorem dX5_neededLinksAt_2 : decode cX5_neededLinksAt 2 = .ok (.iconst 0, 1) := by decide +kernel
theorem dX5_neededLinksAt_3 : decode cX5_neededLinksAt 3 = .ok (.istore 4, 2) := by decide +kernel
theorem dX5_neededLinksAt_5 : decode cX5_neededLinksAt 5 = .ok (.iload 4, 2) := by decide +kernel
theorem dX5_neededLinksAt_7 : decode cX5_neededLinksAt 7 = .ok (.aload_n 1, 1) := by decide +kernel
theorem dX5_neededLinksAt_8 : decode cX5_neededLinksAt 8 = .ok (.invokevirtual 26, 3) := by decide +kernel
theorem dX5_neededLinksAt_11 : decode cX5_neededLinksAt 11 = .ok (.if_icmp .ge 23, 3) := by decide +kernel
theorem dX5_neededLinksAt_14 : decode cX5_neededLinksAt 14 = .ok (.aload_n 0, 1) := by decide +kernel
theorem dX5_neededLinksAt_15 : decode cX5_neededLinksAt 15 = .ok (.aload_n 1, 1) := by decide +kernel
theorem dX5_neededLinksAt_16 : decode cX5_neededLinksAt 16 = .ok (.iload 4, 2) := by decide +kernel
theorem dX5_neededLinksAt_18 : decode cX5_neededLinksAt 18 = .ok (.iload_n 2, 1) := by decide +kernel
theorem dX5_neededLinksAt_19 : decode cX5_neededLinksAt 19 = .ok (.invokevirtual 66, 3) := by decide +kernel
theorem dX5_neededLinksAt_22 : decode cX5_neededLinksAt 22 = .ok (.ifCond .eq 6, 3) := by decide +kernel
theorem dX5_neededLinksAt_25 : decode cX5_neededLinksAt 25 = .ok (.iinc 3 1, 3) := by decide +kernel
theorem dX5_neededLinksAt_28 : decode cX5_neededLinksAt 28 = .ok (.iinc 4 1, 3) := by decide +kernel
theorem dX5_neededLinksAt_31 : decode cX5_neededLinksAt 31 = .ok (.goto (-26), 3) := by decide +kernel
theorem dX5_neededLinksAt_34 : decode cX5_neededLinksAt 34 = .ok (.iload_n 3, 1) := by decide +kernel
theorem dX5_neededLinksAt_35 : decode cX5_neededLinksAt 35 = .ok (.ireturn, 1) := by decide +kernel
theorem dX5_neededMomentsOf_0 : decode cX5_neededMomentsOf 0 = .ok (.iconst 0, 1) := by decide +kernel
theorem dX5_neededMomentsOf_1 : decode cX5_neededMomentsOf 1 = .ok (.istore_n 3, 1) := by decide +kernel
theorem dX5_neededMomentsOf_2 : decode cX5_neededMomentsOf 2 = .ok (.iconst 0, 1) := by decide +kernel
theorem dX5_neededMomentsOf_3 : decode cX5_neededMomentsOf 3 = .ok (.istore 4, 2) := by decide +kernel
theorem dX5_neededMomentsOf_5 : decode cX5_neededMomentsOf 5 = .ok (.iload 4, 2) := by decide +kernel
theorem dX5_neededMomentsOf_7 : decode cX5_neededMomentsOf 7 = .ok (.bipush 64, 2) := by decide +kernel
theorem dX5_neededMomentsOf_9 : decode cX5_neededMomentsOf 9 = .ok (.if_icmp .ge 23, 3) := by decide +kernel
theorem dX5_neededMomentsOf_12 : decode cX5_neededMomentsOf 12 = .ok (.aload_n 0, 1) := by decide +kernel
theorem dX5_neededMomentsOf_13 : decode cX5_neededMomentsOf 13 = .ok (.aload_n 1, 1) := by decide +kernel
theorem dX5_neededMomentsOf_14 : decode cX5_neededMomentsOf 14 = .ok (.iload_n 2, 1) := by decide +kernel
theorem dX5_neededMomentsOf_15 : decode cX5_neededMomentsOf 15 = .ok (.iload 4, 2) := by decide +kernel
theorem dX5_neededMomentsOf_17 : decode cX5_neededMomentsOf 17 = .ok (.invokevirtual 66, 3) := by decide +kernel
theorem dX5_neededMomentsOf_20 : decode cX5_neededMomentsOf 20 = .ok (.ifCond .eq 6, 3) := by decide +kernel
theorem dX5_neededMomentsOf_23 : decode cX5_neededMomentsOf 23 = .ok (.iinc 3 1, 3) := by decide +kernel
theorem dX5_neededMomentsOf_26 : decode cX5_neededMomentsOf 26 = .ok (.iinc 4 1, 3) := by decide +kernel
theorem dX5_neededMomentsOf_29 : decode cX5_neededMomentsOf 29 = .ok (.goto (-24), 3) := by decide +kernel
theorem dX5_neededMomentsOf_32 : decode cX5_neededMomentsOf 32 = .ok (.iload_n 3, 1) := by decide +kernel
theorem dX5_neededMomentsOf_33 : decode cX5_neededMomentsOf 33 = .ok (.ireturn, 1) := by decide +kernel
theorem dX5_isOddAt_0 : decode cX5_isOddAt 0 = .ok (.aload_n 0, 1) := by decide +kernel
theorem dX5_isOddAt_1 : decode cX5_isOddAt 1 = .ok (.getfield 20, 3) := by decide +kernel
theorem dX5_isOddAt_4 : decode cX5_isOddAt 4 = .ok (.iconst 0, 1) := by decide +kernel
theorem dX5_isOddAt_5 : decode cX5_isOddAt 5 = .ok (.invokevirtual 23, 3) := by decide +kernel
theorem dX5_isOddAt_8 : decode cX5_isOddAt 8 = .ok (.iconst 0, 1) := by decide +kernel
theorem dX5_isOddAt_9 : decode cX5_isOddAt 9 = .ok (.istore_n 3, 1) := by decide +kernel
theorem dX5_isOddAt_10 : decode cX5_isOddAt 10 = .ok (.iload_n 3, 1) := by decide +kernel
theorem dX5_isOddAt_11 : decode cX5_isOddAt 11 = .ok (.aload_n 1, 1) := by decide +kernel
theorem dX5_isOddAt_12 : decode cX5_isOddAt 12 = .ok (.invokevirtual 26, 3) := by decide +kernel
theorem dX5_isOddAt_15 : decode cX5_isOddAt 15 = .ok (.if_icmp .ge 58, 3) := by decide +kernel
theorem dX5_isOddAt_18 : decode cX5_isOddAt 18 = .ok (.aload_n 1, 1) := by decide +kernel
theorem dX5_isOddAt_19 : decode cX5_isOddAt 19 = .ok (.iload_n 3, 1) := by decide +kernel
theorem dX5_isOddAt_20 : decode cX5_isOddAt 20 = .ok (.iload_n 2, 1) := by decide +kernel
theorem dX5_isOddAt_21 : decode cX5_isOddAt 21 = .ok (.invokevirtual 32, 3) := by decide +kernel
theorem dX5_isOddAt_24 : decode cX5_isOddAt 24 = .ok (.ifCond .eq 43, 3) := by decide +kernel
theorem dX5_isOddAt_27 : decode cX5_isOddAt 27 = .ok (.aload_n 0, 1) := by decide +kernel
theorem dX5_isOddAt_28 : decode cX5_isOddAt 28 = .ok (.getfield 20, 3) := by decide +kernel
theorem dX5_isOddAt_31 : decode cX5_isOddAt 31 = .ok (.aload_n 1, 1) := by decide +kernel
theorem dX5_isOddAt_32 : decode cX5_isOddAt 32 = .ok (.iload_n 3, 1) := by decide +kernel
theorem dX5_isOddAt_33 : decode cX5_isOddAt 33 = .ok (.invokevirtual 36, 3) := by decide +kernel
theorem dX5_isOddAt_36 : decode cX5_isOddAt 36 = .ok (.bipush 16, 2) := by decide +kernel
theorem dX5_isOddAt_38 : decode cX5_isOddAt 38 = .ok (.aload_n 1, 1) := by decide +kernel
theorem dX5_isOddAt_39 : decode cX5_isOddAt 39 = .ok (.iload_n 3, 1) := by decide +kernel
theorem dX5_isOddAt_40 : decode cX5_isOddAt 40 = .ok (.invokevirtual 40, 3) := by decide +kernel
theorem dX5_isOddAt_43 : decode cX5_isOddAt 43 = .ok (.iadd, 1) := by decide +kernel
theorem dX5_isOddAt_44 : decode cX5_isOddAt 44 = .ok (.invokevirtual 43, 3) := by decide +kernel
theorem dX5_isOddAt_47 : decode cX5_isOddAt 47 = .ok (.aload_n 0, 1) := by decide +kernel
theorem dX5_isOddAt_48 : decode cX5_isOddAt 48 = .ok (.getfield 20, 3) := by decide +kernel
theorem dX5_isOddAt_51 : decode cX5_isOddAt 51 = .ok (.bipush 16, 2) := by decide +kernel
theorem dX5_isOddAt_53 : decode cX5_isOddAt 53 = .ok (.aload_n 1, 1) := by decide +kernel
theorem dX5_isOddAt_54 : decode cX5_isOddAt 54 = .ok (.iload_n 3, 1) := by decide +kernel
theorem dX5_isOddAt_55 : decode cX5_isOddAt 55 = .ok (.invokevirtual 36, 3) := by decide +kernel
theorem dX5_isOddAt_58 : decode cX5_isOddAt 58 = .ok (.iadd, 1) := by decide +kernel
theorem dX5_isOddAt_59 : decode cX5_isOddAt 59 = .ok (.aload_n 1, 1) := by decide +kernel
theorem dX5_isOddAt_60 : decode cX5_isOddAt 60 = .ok (.iload_n 3, 1) := by decide +kernel
theorem dX5_isOddAt_61 : decode cX5_isOddAt 61 = .ok (.invokevirtual 40, 3) := by decide +kernel
theorem dX5_isOddAt_64 : decode cX5_isOddAt 64 = .ok (.invokevirtual 43, 3) := by decide +kernel
theorem dX5_isOddAt_67 : decode cX5_isOddAt 67 = .ok (.iinc 3 1, 3) := by decide +kernel
theorem dX5_isOddAt_70 : decode cX5_isOddAt 70 = .ok (.goto (-60), 3) := by decide +kernel
theorem dX5_isOddAt_73 : decode cX5_isOddAt 73 = .ok (.iconst 0, 1) := by decide +kernel
theorem dX5_isOddAt_74 : decode cX5_isOddAt 74 = .ok (.istore_n 3, 1) := by decide +kernel
theorem dX5_isOddAt_75 : decode cX5_isOddAt 75 = .ok (.iload_n 3, 1) := by decide +kernel
theorem dX5_isOddAt_76 : decode cX5_isOddAt 76 = .ok (.bipush 16, 2) := by decide +kernel
theorem dX5_isOddAt_78 : decode cX5_isOddAt 78 = .ok (.if_icmp .ge 26, 3) := by decide +kernel
theorem dX5_isOddAt_81 : decode cX5_isOddAt 81 = .ok (.aload_n 0, 1) := by decide +kernel
theorem dX5_isOddAt_82 : decode cX5_isOddAt 82 = .ok (.getfield 20, 3) := by decide +kernel
theorem dX5_isOddAt_85 : decode cX5_isOddAt 85 = .ok (.iload_n 3, 1) := by decide +kernel
theorem dX5_isOddAt_86 : decode cX5_isOddAt 86 = .ok (.bipush 16, 2) := by decide +kernel
theorem dX5_isOddAt_88 : decode cX5_isOddAt 88 = .ok (.iload_n 3, 1) := by decide +kernel
theorem dX5_isOddAt_89 : decode cX5_isOddAt 89 = .ok (.iadd, 1) := by decide +kernel
theorem dX5_isOddAt_90 : decode cX5_isOddAt 90 = .ok (.invokevirtual 51, 3) := by decide +kernel
theorem dX5_isOddAt_93 : decode cX5_isOddAt 93 = .ok (.ifCond .eq 5, 3) := by decide +kernel
theorem dX5_isOddAt_96 : decode cX5_isOddAt 96 = .ok (.iconst 1, 1) := by decide +kernel
theorem dX5_isOddAt_97 : decode cX5_isOddAt 97 = .ok (.ireturn, 1) := by decide +kernel
theorem dX5_isOddAt_98 : decode cX5_isOddAt 98 = .ok (.iinc 3 1, 3) := by decide +kernel
theorem dX5_isOddAt_101 : decode cX5_isOddAt 101 = .ok (.goto (-26), 3) := by decide +kernel
theorem dX5_isOddAt_104 : decode cX5_isOddAt 104 = .ok (.iconst 0, 1) := by decide +kernel
theorem dX5_isOddAt_105 : decode cX5_isOddAt 105 = .ok (.ireturn, 1) := by decide +kernel
theorem dX5_oddMoments_0 : decode cX5_oddMoments 0 = .ok (.iconst 0, 1) := by decide +kernel
theorem dX5_oddMoments_1 : decode cX5_oddMoments 1 = .ok (.istore_n 2, 1) := by decide +kernel
theorem dX5_oddMoments_2 : decode cX5_oddMoments 2 = .ok (.iconst 0, 1) := by decide +kernel
theorem dX5_oddMoments_3 : decode cX5_oddMoments 3 = .ok (.istore_n 3, 1) := by decide +kernel
theorem dX5_oddMoments_4 : decode cX5_oddMoments 4 = .ok (.iload_n 3, 1) := by decide +kernel
theorem dX5_oddMoments_5 : decode cX5_oddMoments 5 = .ok (.bipush 64, 2) := by decide +kernel
theorem dX5_oddMoments_7 : decode cX5_oddMoments 7 = .ok (.if_icmp .ge 21, 3) := by decide +kernel
theorem dX5_oddMoments_10 : decode cX5_oddMoments 10 = .ok (.aload_n 0, 1) := by decide +kernel
theorem dX5_oddMoments_11 : decode cX5_oddMoments 11 = .ok (.aload_n 1, 1) := by decide +kernel
theorem dX5_oddMoments_12 : decode cX5_oddMoments 12 = .ok (.iload_n 3, 1) := by decide +kernel
theorem dX5_oddMoments_13 : decode cX5_oddMoments 13 = .ok (.invokevirtual 70, 3) := by decide +kernel
theorem dX5_oddMoments_16 : decode cX5_oddMoments 16 = .ok (.ifCond .eq 6, 3) := by decide +kernel
theorem dX5_oddMoments_19 : decode cX5_oddMoments 19 = .ok (.iinc 2 1, 3) := by decide +kernel
theorem dX5_oddMoments_22 : decode cX5_oddMoments 22 = .ok (.iinc 3 1, 3) := by decide +kernel
theorem dX5_oddMoments_25 : decode cX5_oddMoments 25 = .ok (.goto (-21), 3) := by decide +kernel
theorem dX5_oddMoments_28 : decode cX5_oddMoments 28 = .ok (.iload_n 2, 1) := by decide +kernel
theorem dX5_oddMoments_29 : decode cX5_oddMoments 29 = .ok (.ireturn, 1) := by decide +kernel
theorem dX5_mostParts_0 : decode cX5_mostParts 0 = .ok (.iconst 0, 1) := by decide +kernel
theorem dX5_mostParts_1 : decode cX5_mostParts 1 = .ok (.istore_n 2, 1) := by decide +kernel
theorem dX5_mostParts_2 : decode cX5_mostParts 2 = .ok (.iconst 0, 1) := by decide +kernel
theorem dX5_mostParts_3 : decode cX5_mostParts 3 = .ok (.istore_n 3, 1) := by decide +kernel
theorem dX5_mostParts_4 : decode cX5_mostParts 4 = .ok (.iload_n 3, 1) := by decide +kernel
theorem dX5_mostParts_5 : decode cX5_mostParts 5 = .ok (.bipush 64, 2) := by decide +kernel
theorem dX5_mostParts_7 : decode cX5_mostParts 7 = .ok (.if_icmp .ge 20, 3) := by decide +kernel
theorem dX5_mostParts_10 : decode cX5_mostParts 10 = .ok (.iload_n 2, 1) := by decide +kernel
theorem dX5_mostParts_11 : decode cX5_mostParts 11 = .ok (.aload_n 0, 1) := by decide +kernel
theorem dX5_mostParts_12 : decode cX5_mostParts 12 = .ok (.aload_n 1, 1) := by decide +kernel
theorem dX5_mostParts_13 : decode cX5_mostParts 13 = .ok (.iload_n 3, 1) := by decide +kernel
theorem dX5_mostParts_14 : decode cX5_mostParts 14 = .ok (.invokevirtual 74, 3) := by decide +kernel
theorem dX5_mostParts_17 : decode cX5_mostParts 17 = .ok (.invokestatic 60, 3) := by decide +kernel
theorem dX5_mostParts_20 : decode cX5_mostParts 20 = .ok (.istore_n 2, 1) := by decide +kernel
theorem dX5_mostParts_21 : decode cX5_mostParts 21 = .ok (.iinc 3 1, 3) := by decide +kernel
theorem dX5_mostParts_24 : decode cX5_mostParts 24 = .ok (.goto (-20), 3) := by decide +kernel
theorem dX5_mostParts_27 : decode cX5_mostParts 27 = .ok (.iload_n 2, 1) := by decide +kernel
theorem dX5_mostParts_28 : decode cX5_mostParts 28 = .ok (.ireturn, 1) := by decide +kernel
theorem dX5_fewestParts_0 : decode cX5_fewestParts 0 = .ok (.bipush 16, 2) := by decide +kernel
theorem dX5_fewestParts_2 : decode cX5_fewestParts 2 = .ok (.istore_n 2, 1) := by decide +kernel
theorem dX5_fewestParts_3 : decode cX5_fewestParts 3 = .ok (.iconst 0, 1) := by decide +kernel
theorem dX5_fewestParts_4 : decode cX5_fewestParts 4 = .ok (.istore_n 3, 1) := by decide +kernel
theorem dX5_fewestParts_5 : decode cX5_fewestParts 5 = .ok (.iload_n 3, 1) := by decide +kernel
theorem dX5_fewestParts_6 : decode cX5_fewestParts 6 = .ok (.bipush 64, 2) := by decide +kernel
theorem dX5_fewestParts_8 : decode cX5_fewestParts 8 = .ok (.if_icmp .ge 20, 3) := by decide +kernel
theorem dX5_fewestParts_11 : decode cX5_fewestParts 11 = .ok (.iload_n 2, 1) := by decide +kernel
theorem dX5_fewestParts_12 : decode cX5_fewestParts 12 = .ok (.aload_n 0, 1) := by decide +kernel
theorem dX5_fewestParts_13 : decode cX5_fewestParts 13 = .ok (.aload_n 1, 1) := by decide +kernel
theorem dX5_fewestParts_14 : decode cX5_fewestParts 14 = .ok (.iload_n 3, 1) := by decide +kernel
theorem dX5_fewestParts_15 : decode cX5_fewestParts 15 = .ok (.invokevirtual 74, 3) := by decide +kernel
theorem dX5_fewestParts_18 : decode cX5_fewestParts 18 = .ok (.invokestatic 78, 3) := by decide +kernel
theorem dX5_fewestParts_21 : decode cX5_fewestParts 21 = .ok (.istore_n 2, 1) := by decide +kernel
theorem dX5_fewestParts_22 : decode cX5_fewestParts 22 = .ok (.iinc 3 1, 3) := by decide +kernel
theorem dX5_fewestParts_25 : decode cX5_fewestParts 25 = .ok (.goto (-20), 3) := by decide +kernel
theorem dX5_fewestParts_28 : decode cX5_fewestParts 28 = .ok (.iload_n 2, 1) := by decide +kernel
theorem dX5_fewestParts_29 : decode cX5_fewestParts 29 = .ok (.ireturn, 1) := by decide +kernel
