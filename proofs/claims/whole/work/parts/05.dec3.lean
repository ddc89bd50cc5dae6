theorem dX7_init_0 : decode cX7_init 0 = .ok (.aload_n 0, 1) := by decide +kernel
theorem dX7_init_1 : decode cX7_init 1 = .ok (.invokespecial 1, 3) := by decide +kernel
theorem dX7_init_4 : decode cX7_init 4 = .ok (.aload_n 0, 1) := by decide +kernel
theorem dX7_init_5 : decode cX7_init 5 = .ok (.sipush 161, 3) := by decide +kernel
theorem dX7_init_8 : decode cX7_init 8 = .ok (.newarray .int, 2) := by decide +kernel
theorem dX7_init_10 : decode cX7_init 10 = .ok (.putfield 7, 3) := by decide +kernel
theorem dX7_init_13 : decode cX7_init 13 = .ok (.aload_n 0, 1) := by decide +kernel
theorem dX7_init_14 : decode cX7_init 14 = .ok (.sipush 161, 3) := by decide +kernel
theorem dX7_init_17 : decode cX7_init 17 = .ok (.newarray .int, 2) := by decide +kernel
theorem dX7_init_19 : decode cX7_init 19 = .ok (.putfield 13, 3) := by decide +kernel
theorem dX7_init_22 : decode cX7_init 22 = .ok (.aload_n 0, 1) := by decide +kernel
theorem dX7_init_23 : decode cX7_init 23 = .ok (.sipush 644, 3) := by decide +kernel
theorem dX7_init_26 : decode cX7_init 26 = .ok (.newarray .int, 2) := by decide +kernel
theorem dX7_init_28 : decode cX7_init 28 = .ok (.putfield 16, 3) := by decide +kernel
theorem dX7_init_31 : decode cX7_init 31 = .ok (.aload_n 0, 1) := by decide +kernel
theorem dX7_init_32 : decode cX7_init 32 = .ok (.sipush 161, 3) := by decide +kernel
theorem dX7_init_35 : decode cX7_init 35 = .ok (.newarray .int, 2) := by decide +kernel
theorem dX7_init_37 : decode cX7_init 37 = .ok (.putfield 19, 3) := by decide +kernel
theorem dX7_init_40 : decode cX7_init 40 = .ok (.aload_n 0, 1) := by decide +kernel
theorem dX7_init_41 : decode cX7_init 41 = .ok (.bipush 60, 2) := by decide +kernel
theorem dX7_init_43 : decode cX7_init 43 = .ok (.newarray .int, 2) := by decide +kernel
theorem dX7_init_45 : decode cX7_init 45 = .ok (.putfield 22, 3) := by decide +kernel
theorem dX7_init_48 : decode cX7_init 48 = .ok (.aload_n 0, 1) := by decide +kernel
theorem dX7_init_49 : decode cX7_init 49 = .ok (.bipush 40, 2) := by decide +kernel
theorem dX7_init_51 : decode cX7_init 51 = .ok (.newarray .int, 2) := by decide +kernel
theorem dX7_init_53 : decode cX7_init 53 = .ok (.putfield 25, 3) := by decide +kernel
theorem dX7_init_56 : decode cX7_init 56 = .ok (.return_, 1) := by decide +kernel
theorem dX7_in_0 : decode cX7_in 0 = .ok (.lload_n 0, 1) := by decide +kernel
theorem dX7_in_1 : decode cX7_in 1 = .ok (.lload_n 2, 1) := by decide +kernel
theorem dX7_in_2 : decode cX7_in 2 = .ok (.lcmp, 1) := by decide +kernel
theorem dX7_in_3 : decode cX7_in 3 = .ok (.ifCond .lt 14, 3) := by decide +kernel
theorem dX7_in_6 : decode cX7_in 6 = .ok (.lload_n 0, 1) := by decide +kernel
theorem dX7_in_7 : decode cX7_in 7 = .ok (.lload 4, 2) := by decide +kernel
theorem dX7_in_9 : decode cX7_in 9 = .ok (.lcmp, 1) := by decide +kernel
theorem dX7_in_10 : decode cX7_in 10 = .ok (.ifCond .gt 7, 3) := by decide +kernel
theorem dX7_in_13 : decode cX7_in 13 = .ok (.iconst 1, 1) := by decide +kernel
theorem dX7_in_14 : decode cX7_in 14 = .ok (.goto 4, 3) := by decide +kernel
theorem dX7_in_17 : decode cX7_in 17 = .ok (.iconst 0, 1) := by decide +kernel
theorem dX7_in_18 : decode cX7_in 18 = .ok (.ireturn, 1) := by decide +kernel
theorem dX7_remember_0 : decode cX7_remember 0 = .ok (.iconst 0, 1) := by decide +kernel
theorem dX7_remember_1 : decode cX7_remember 1 = .ok (.istore_n 1, 1) := by decide +kernel
theorem dX7_remember_2 : decode cX7_remember 2 = .ok (.iload_n 1, 1) := by decide +kernel
theorem dX7_remember_3 : decode cX7_remember 3 = .ok (.sipush 161, 3) := by decide +kernel
theorem dX7_remember_6 : decode cX7_remember 6 = .ok (.if_icmp .ge 21, 3) := by decide +kernel
theorem dX7_remember_9 : decode cX7_remember 9 = .ok (.aload_n 0, 1) := by decide +kernel
theorem dX7_remember_10 : decode cX7_remember 10 = .ok (.getfield 13, 3) := by decide +kernel
theorem dX7_remember_13 : decode cX7_remember 13 = .ok (.iload_n 1, 1) := by decide +kernel
theorem dX7_remember_14 : decode cX7_remember 14 = .ok (.aload_n 0, 1) := by decide +kernel
theorem dX7_remember_15 : decode cX7_remember 15 = .ok (.getfield 7, 3) := by decide +kernel
theorem dX7_remember_18 : decode cX7_remember 18 = .ok (.iload_n 1, 1) := by decide +kernel
theorem dX7_remember_19 : decode cX7_remember 19 = .ok (.iaload, 1) := by decide +kernel
theorem dX7_remember_20 : decode cX7_remember 20 = .ok (.iastore, 1) := by decide +kernel
theorem dX7_remember_21 : decode cX7_remember 21 = .ok (.iinc 1 1, 3) := by decide +kernel
theorem dX7_remember_24 : decode cX7_remember 24 = .ok (.goto (-22), 3) := by decide +kernel
theorem dX7_remember_27 : decode cX7_remember 27 = .ok (.return_, 1) := by decide +kernel
theorem dX7_acted_0 : decode cX7_acted 0 = .ok (.aload_n 0, 1) := by decide +kernel
theorem dX7_acted_1 : decode cX7_acted 1 = .ok (.getfield 28, 3) := by decide +kernel
theorem dX7_acted_4 : decode cX7_acted 4 = .ok (.iconst 4, 1) := by decide +kernel
theorem dX7_acted_5 : decode cX7_acted 5 = .ok (.if_icmp .ne 44, 3) := by decide +kernel
theorem dX7_acted_8 : decode cX7_acted 8 = .ok (.iconst 0, 1) := by decide +kernel
theorem dX7_acted_9 : decode cX7_acted 9 = .ok (.istore_n 2, 1) := by decide +kernel
theorem dX7_acted_10 : decode cX7_acted 10 = .ok (.iload_n 2, 1) := by decide +kernel
theorem dX7_acted_11 : decode cX7_acted 11 = .ok (.sipush 483, 3) := by decide +kernel
theorem dX7_acted_14 : decode cX7_acted 14 = .ok (.if_icmp .ge 25, 3) := by decide +kernel
theorem dX7_acted_17 : decode cX7_acted 17 = .ok (.aload_n 0, 1) := by decide +kernel
theorem dX7_acted_18 : decode cX7_acted 18 = .ok (.getfield 16, 3) := by decide +kernel
theorem dX7_acted_21 : decode cX7_acted 21 = .ok (.iload_n 2, 1) := by decide +kernel
theorem dX7_acted_22 : decode cX7_acted 22 = .ok (.aload_n 0, 1) := by decide +kernel
theorem dX7_acted_23 : decode cX7_acted 23 = .ok (.getfield 16, 3) := by decide +kernel
theorem dX7_acted_26 : decode cX7_acted 26 = .ok (.iload_n 2, 1) := by decide +kernel
theorem dX7_acted_27 : decode cX7_acted 27 = .ok (.sipush 161, 3) := by decide +kernel
theorem dX7_acted_30 : decode cX7_acted 30 = .ok (.iadd, 1) := by decide +kernel
theorem dX7_acted_31 : decode cX7_acted 31 = .ok (.iaload, 1) := by decide +kernel
theorem dX7_acted_32 : decode cX7_acted 32 = .ok (.iastore, 1) := by decide +kernel
theorem dX7_acted_33 : decode cX7_acted 33 = .ok (.iinc 2 1, 3) := by decide +kernel
theorem dX7_acted_36 : decode cX7_acted 36 = .ok (.goto (-26), 3) := by decide +kernel
theorem dX7_acted_39 : decode cX7_acted 39 = .ok (.aload_n 0, 1) := by decide +kernel
theorem dX7_acted_40 : decode cX7_acted 40 = .ok (.dup, 1) := by decide +kernel
theorem dX7_acted_41 : decode cX7_acted 41 = .ok (.getfield 28, 3) := by decide +kernel
theorem dX7_acted_44 : decode cX7_acted 44 = .ok (.iconst 1, 1) := by decide +kernel
theorem dX7_acted_45 : decode cX7_acted 45 = .ok (.isub, 1) := by decide +kernel
theorem dX7_acted_46 : decode cX7_acted 46 = .ok (.putfield 28, 3) := by decide +kernel
theorem dX7_acted_49 : decode cX7_acted 49 = .ok (.iconst 0, 1) := by decide +kernel
theorem dX7_acted_50 : decode cX7_acted 50 = .ok (.istore_n 2, 1) := by decide +kernel
theorem dX7_acted_51 : decode cX7_acted 51 = .ok (.iload_n 2, 1) := by decide +kernel
theorem dX7_acted_52 : decode cX7_acted 52 = .ok (.sipush 161, 3) := by decide +kernel
theorem dX7_acted_55 : decode cX7_acted 55 = .ok (.if_icmp .ge 30, 3) := by decide +kernel
theorem dX7_acted_58 : decode cX7_acted 58 = .ok (.aload_n 0, 1) := by decide +kernel
theorem dX7_acted_59 : decode cX7_acted 59 = .ok (.getfield 16, 3) := by decide +kernel
theorem dX7_acted_62 : decode cX7_acted 62 = .ok (.sipush 161, 3) := by decide +kernel
theorem dX7_acted_65 : decode cX7_acted 65 = .ok (.aload_n 0, 1) := by decide +kernel
theorem dX7_acted_66 : decode cX7_acted 66 = .ok (.getfield 28, 3) := by decide +kernel
theorem dX7_acted_69 : decode cX7_acted 69 = .ok (.imul, 1) := by decide +kernel
theorem dX7_acted_70 : decode cX7_acted 70 = .ok (.iload_n 2, 1) := by decide +kernel
theorem dX7_acted_71 : decode cX7_acted 71 = .ok (.iadd, 1) := by decide +kernel
theorem dX7_acted_72 : decode cX7_acted 72 = .ok (.aload_n 0, 1) := by decide +kernel
theorem dX7_acted_73 : decode cX7_acted 73 = .ok (.getfield 13, 3) := by decide +kernel
theorem dX7_acted_76 : decode cX7_acted 76 = .ok (.iload_n 2, 1) := by decide +kernel
theorem dX7_acted_77 : decode cX7_acted 77 = .ok (.iaload, 1) := by decide +kernel
theorem dX7_acted_78 : decode cX7_acted 78 = .ok (.iastore, 1) := by decide +kernel
theorem dX7_acted_79 : decode cX7_acted 79 = .ok (.iinc 2 1, 3) := by decide +kernel
theorem dX7_acted_82 : decode cX7_acted 82 = .ok (.goto (-31), 3) := by decide +kernel
theorem dX7_acted_85 : decode cX7_acted 85 = .ok (.aload_n 0, 1) := by decide +kernel
theorem dX7_acted_86 : decode cX7_acted 86 = .ok (.dup, 1) := by decide +kernel
theorem dX7_acted_87 : decode cX7_acted 87 = .ok (.getfield 28, 3) := by decide +kernel
theorem dX7_acted_90 : decode cX7_acted 90 = .ok (.iconst 1, 1) := by decide +kernel
theorem dX7_acted_91 : decode cX7_acted 91 = .ok (.iadd, 1) := by decide +kernel
theorem dX7_acted_92 : decode cX7_acted 92 = .ok (.putfield 28, 3) := by decide +kernel
theorem dX7_acted_95 : decode cX7_acted 95 = .ok (.iload_n 1, 1) := by decide +kernel
theorem dX7_acted_96 : decode cX7_acted 96 = .ok (.ireturn, 1) := by decide +kernel
theorem dX7_isPoint_0 : decode cX7_isPoint 0 = .ok (.iload_n 0, 1) := by decide +kernel
theorem dX7_isPoint_1 : decode cX7_isPoint 1 = .ok (.i2l, 1) := by decide +kernel
theorem dX7_isPoint_2 : decode cX7_isPoint 2 = .ok (.lconst 0, 1) := by decide +kernel
theorem dX7_isPoint_3 : decode cX7_isPoint 3 = .ok (.ldc2_w 32, 3) := by decide +kernel
theorem dX7_isPoint_6 : decode cX7_isPoint 6 = .ok (.invokestatic 34, 3) := by decide +kernel
theorem dX7_isPoint_9 : decode cX7_isPoint 9 = .ok (.ireturn, 1) := by decide +kernel
theorem dX7_isMoment_0 : decode cX7_isMoment 0 = .ok (.iload_n 0, 1) := by decide +kernel
theorem dX7_isMoment_1 : decode cX7_isMoment 1 = .ok (.i2l, 1) := by decide +kernel
theorem dX7_isMoment_2 : decode cX7_isMoment 2 = .ok (.lconst 0, 1) := by decide +kernel
theorem dX7_isMoment_3 : decode cX7_isMoment 3 = .ok (.ldc2_w 38, 3) := by decide +kernel
theorem dX7_isMoment_6 : decode cX7_isMoment 6 = .ok (.invokestatic 34, 3) := by decide +kernel
theorem dX7_isMoment_9 : decode cX7_isMoment 9 = .ok (.ireturn, 1) := by decide +kernel
theorem dX7_isLife_0 : decode cX7_isLife 0 = .ok (.iload_n 0, 1) := by decide +kernel
theorem dX7_isLife_1 : decode cX7_isLife 1 = .ok (.invokestatic 40, 3) := by decide +kernel
theorem dX7_isLife_4 : decode cX7_isLife 4 = .ok (.ifCond .eq 24, 3) := by decide +kernel
theorem dX7_isLife_7 : decode cX7_isLife 7 = .ok (.iload_n 1, 1) := by decide +kernel
theorem dX7_isLife_8 : decode cX7_isLife 8 = .ok (.i2l, 1) := by decide +kernel
theorem dX7_isLife_9 : decode cX7_isLife 9 = .ok (.lconst 1, 1) := by decide +kernel
theorem dX7_isLife_10 : decode cX7_isLife 10 = .ok (.ldc2_w 44, 3) := by decide +kernel
theorem dX7_isLife_13 : decode cX7_isLife 13 = .ok (.invokestatic 34, 3) := by decide +kernel
theorem dX7_isLife_16 : decode cX7_isLife 16 = .ok (.ifCond .eq 12, 3) := by decide +kernel
theorem dX7_isLife_19 : decode cX7_isLife 19 = .ok (.iload_n 1, 1) := by decide +kernel
theorem dX7_isLife_20 : decode cX7_isLife 20 = .ok (.iload_n 0, 1) := by decide +kernel
theorem dX7_isLife_21 : decode cX7_isLife 21 = .ok (.if_icmp .le 7, 3) := by decide +kernel
theorem dX7_isLife_24 : decode cX7_isLife 24 = .ok (.iconst 1, 1) := by decide +kernel
theorem dX7_isLife_25 : decode cX7_isLife 25 = .ok (.goto 4, 3) := by decide +kernel
theorem dX7_isLife_28 : decode cX7_isLife 28 = .ok (.iconst 0, 1) := by decide +kernel
theorem dX7_isLife_29 : decode cX7_isLife 29 = .ok (.ireturn, 1) := by decide +kernel
theorem dX7_isLink_0 : decode cX7_isLink 0 = .ok (.iload_n 1, 1) := by decide +kernel
theorem dX7_isLink_1 : decode cX7_isLink 1 = .ok (.i2l, 1) := by decide +kernel
theorem dX7_isLink_2 : decode cX7_isLink 2 = .ok (.lconst 0, 1) := by decide +kernel
theorem dX7_isLink_3 : decode cX7_isLink 3 = .ok (.aload_n 0, 1) := by decide +kernel
theorem dX7_isLink_4 : decode cX7_isLink 4 = .ok (.getfield 7, 3) := by decide +kernel
theorem dX7_isLink_7 : decode cX7_isLink 7 = .ok (.iconst 0, 1) := by decide +kernel
theorem dX7_isLink_8 : decode cX7_isLink 8 = .ok (.iaload, 1) := by decide +kernel
theorem dX7_isLink_9 : decode cX7_isLink 9 = .ok (.i2l, 1) := by decide +kernel
theorem dX7_isLink_10 : decode cX7_isLink 10 = .ok (.lconst 1, 1) := by decide +kernel
theorem dX7_isLink_11 : decode cX7_isLink 11 = .ok (.lsub, 1) := by decide +kernel
theorem dX7_isLink_12 : decode cX7_isLink 12 = .ok (.invokestatic 34, 3) := by decide +kernel
theorem dX7_isLink_15 : decode cX7_isLink 15 = .ok (.ireturn, 1) := by decide +kernel
theorem dX7_lives_0 : decode cX7_lives 0 = .ok (.aload_n 0, 1) := by decide +kernel
theorem dX7_lives_1 : decode cX7_lives 1 = .ok (.getfield 7, 3) := by decide +kernel
theorem dX7_lives_4 : decode cX7_lives 4 = .ok (.bipush 81, 2) := by decide +kernel
theorem dX7_lives_6 : decode cX7_lives 6 = .ok (.iload_n 1, 1) := by decide +kernel
theorem dX7_lives_7 : decode cX7_lives 7 = .ok (.iadd, 1) := by decide +kernel
theorem dX7_lives_8 : decode cX7_lives 8 = .ok (.iaload, 1) := by decide +kernel
theorem dX7_lives_9 : decode cX7_lives 9 = .ok (.iload_n 2, 1) := by decide +kernel
theorem dX7_lives_10 : decode cX7_lives 10 = .ok (.if_icmp .gt 20, 3) := by decide +kernel
theorem dX7_lives_13 : decode cX7_lives 13 = .ok (.aload_n 0, 1) := by decide +kernel
theorem dX7_lives_14 : decode cX7_lives 14 = .ok (.getfield 7, 3) := by decide +kernel
theorem dX7_lives_17 : decode cX7_lives 17 = .ok (.bipush 121, 2) := by decide +kernel
theorem dX7_lives_19 : decode cX7_lives 19 = .ok (.iload_n 1, 1) := by decide +kernel
theorem dX7_lives_20 : decode cX7_lives 20 = .ok (.iadd, 1) := by decide +kernel
theorem dX7_lives_21 : decode cX7_lives 21 = .ok (.iaload, 1) := by decide +kernel
theorem dX7_lives_22 : decode cX7_lives 22 = .ok (.iload_n 3, 1) := by decide +kernel
theorem dX7_lives_23 : decode cX7_lives 23 = .ok (.if_icmp .lt 7, 3) := by decide +kernel
theorem dX7_lives_26 : decode cX7_lives 26 = .ok (.iconst 1, 1) := by decide +kernel
theorem dX7_lives_27 : decode cX7_lives 27 = .ok (.goto 4, 3) := by decide +kernel
theorem dX7_lives_30 : decode cX7_lives 30 = .ok (.iconst 0, 1) := by decide +kernel
theorem dX7_lives_31 : decode cX7_lives 31 = .ok (.ireturn, 1) := by decide +kernel
theorem dX7_livesAt_0 : decode cX7_livesAt 0 = .ok (.aload_n 0, 1) := by decide +kernel
theorem dX7_livesAt_1 : decode cX7_livesAt 1 = .ok (.iload_n 1, 1) := by decide +kernel
theorem dX7_livesAt_2 : decode cX7_livesAt 2 = .ok (.iload_n 2, 1) := by decide +kernel
theorem dX7_livesAt_3 : decode cX7_livesAt 3 = .ok (.iload_n 2, 1) := by decide +kernel
theorem dX7_livesAt_4 : decode cX7_livesAt 4 = .ok (.iconst 1, 1) := by decide +kernel
theorem dX7_livesAt_5 : decode cX7_livesAt 5 = .ok (.iadd, 1) := by decide +kernel
theorem dX7_livesAt_6 : decode cX7_livesAt 6 = .ok (.invokevirtual 46, 3) := by decide +kernel
theorem dX7_livesAt_9 : decode cX7_livesAt 9 = .ok (.ireturn, 1) := by decide +kernel
theorem dX7_bits_0 : decode cX7_bits 0 = .ok (.iconst 0, 1) := by decide +kernel
theorem dX7_bits_1 : decode cX7_bits 1 = .ok (.istore_n 2, 1) := by decide +kernel
theorem dX7_bits_2 : decode cX7_bits 2 = .ok (.lload_n 0, 1) := by decide +kernel
theorem dX7_bits_3 : decode cX7_bits 3 = .ok (.lstore_n 3, 1) := by decide +kernel
theorem dX7_bits_4 : decode cX7_bits 4 = .ok (.lload_n 3, 1) := by decide +kernel
theorem dX7_bits_5 : decode cX7_bits 5 = .ok (.lconst 0, 1) := by decide +kernel
theorem dX7_bits_6 : decode cX7_bits 6 = .ok (.lcmp, 1) := by decide +kernel
theorem dX7_bits_7 : decode cX7_bits 7 = .ok (.ifCond .eq 15, 3) := by decide +kernel
theorem dX7_bits_10 : decode cX7_bits 10 = .ok (.iinc 2 1, 3) := by decide +kernel
theorem dX7_bits_13 : decode cX7_bits 13 = .ok (.lload_n 3, 1) := by decide +kernel
theorem dX7_bits_14 : decode cX7_bits 14 = .ok (.lload_n 3, 1) := by decide +kernel
theorem dX7_bits_15 : decode cX7_bits 15 = .ok (.lconst 1, 1) := by decide +kernel
theorem dX7_bits_16 : decode cX7_bits 16 = .ok (.lsub, 1) := by decide +kernel
theorem dX7_bits_17 : decode cX7_bits 17 = .ok (.land, 1) := by decide +kernel
theorem dX7_bits_18 : decode cX7_bits 18 = .ok (.lstore_n 3, 1) := by decide +kernel
theorem dX7_bits_19 : decode cX7_bits 19 = .ok (.goto (-15), 3) := by decide +kernel
theorem dX7_bits_22 : decode cX7_bits 22 = .ok (.iload_n 2, 1) := by decide +kernel
theorem dX7_bits_23 : decode cX7_bits 23 = .ok (.ireturn, 1) := by decide +kernel
theorem dX7_livingAt_0 : decode cX7_livingAt 0 = .ok (.lconst 0, 1) := by decide +kernel
theorem dX7_livingAt_1 : decode cX7_livingAt 1 = .ok (.lstore_n 2, 1) := by decide +kernel
theorem dX7_livingAt_2 : decode cX7_livingAt 2 = .ok (.iconst 0, 1) := by decide +kernel
theorem dX7_livingAt_3 : decode cX7_livingAt 3 = .ok (.istore 4, 2) := by decide +kernel
theorem dX7_livingAt_5 : decode cX7_livingAt 5 = .ok (.iload 4, 2) := by decide +kernel
theorem dX7_livingAt_7 : decode cX7_livingAt 7 = .ok (.aload_n 0, 1) := by decide +kernel
theorem dX7_livingAt_8 : decode cX7_livingAt 8 = .ok (.getfield 7, 3) := by decide +kernel
theorem dX7_livingAt_11 : decode cX7_livingAt 11 = .ok (.iconst 0, 1) := by decide +kernel
theorem dX7_livingAt_12 : decode cX7_livingAt 12 = .ok (.iaload, 1) := by decide +kernel
theorem dX7_livingAt_13 : decode cX7_livingAt 13 = .ok (.if_icmp .ge 30, 3) := by decide +kernel
theorem dX7_livingAt_16 : decode cX7_livingAt 16 = .ok (.lload_n 2, 1) := by decide +kernel
theorem dX7_livingAt_17 : decode cX7_livingAt 17 = .ok (.aload_n 0, 1) := by decide +kernel
theorem dX7_livingAt_18 : decode cX7_livingAt 18 = .ok (.iload 4, 2) := by decide +kernel
theorem dX7_livingAt_20 : decode cX7_livingAt 20 = .ok (.iload_n 1, 1) := by decide +kernel
theorem dX7_livingAt_21 : decode cX7_livingAt 21 = .ok (.invokevirtual 50, 3) := by decide +kernel
theorem dX7_livingAt_24 : decode cX7_livingAt 24 = .ok (.ifCond .eq 10, 3) := by decide +kernel
theorem dX7_livingAt_27 : decode cX7_livingAt 27 = .ok (.lconst 1, 1) := by decide +kernel
theorem dX7_livingAt_28 : decode cX7_livingAt 28 = .ok (.iload 4, 2) := by decide +kernel
theorem dX7_livingAt_30 : decode cX7_livingAt 30 = .ok (.lshl, 1) := by decide +kernel
theorem dX7_livingAt_31 : decode cX7_livingAt 31 = .ok (.goto 4, 3) := by decide +kernel
theorem dX7_livingAt_34 : decode cX7_livingAt 34 = .ok (.lconst 0, 1) := by decide +kernel
theorem dX7_livingAt_35 : decode cX7_livingAt 35 = .ok (.lor, 1) := by decide +kernel
theorem dX7_livingAt_36 : decode cX7_livingAt 36 = .ok (.lstore_n 2, 1) := by decide +kernel
theorem dX7_livingAt_37 : decode cX7_livingAt 37 = .ok (.iinc 4 1, 3) := by decide +kernel
theorem dX7_livingAt_40 : decode cX7_livingAt 40 = .ok (.goto (-35), 3) := by decide +kernel
theorem dX7_livingAt_43 : decode cX7_livingAt 43 = .ok (.lload_n 2, 1) := by decide +kernel
theorem dX7_livingAt_44 : decode cX7_livingAt 44 = .ok (.lreturn, 1) := by decide +kernel
theorem dX7_reach_0 : decode cX7_reach 0 = .ok (.iconst 1, 1) := by decide +kernel
theorem dX7_reach_1 : decode cX7_reach 1 = .ok (.iload_n 3, 1) := by decide +kernel
theorem dX7_reach_2 : decode cX7_reach 2 = .ok (.ishl, 1) := by decide +kernel
theorem dX7_reach_3 : decode cX7_reach 3 = .ok (.istore 4, 2) := by decide +kernel
theorem dX7_reach_5 : decode cX7_reach 5 = .ok (.iconst 1, 1) := by decide +kernel
theorem dX7_reach_6 : decode cX7_reach 6 = .ok (.istore 5, 2) := by decide +kernel
theorem dX7_reach_8 : decode cX7_reach 8 = .ok (.iload 5, 2) := by decide +kernel
theorem dX7_reach_10 : decode cX7_reach 10 = .ok (.ifCond .eq 100, 3) := by decide +kernel
theorem dX7_reach_13 : decode cX7_reach 13 = .ok (.iload 4, 2) := by decide +kernel
theorem dX7_reach_15 : decode cX7_reach 15 = .ok (.istore 6, 2) := by decide +kernel
theorem dX7_reach_17 : decode cX7_reach 17 = .ok (.iconst 0, 1) := by decide +kernel
theorem dX7_reach_18 : decode cX7_reach 18 = .ok (.istore 7, 2) := by decide +kernel
theorem dX7_reach_20 : decode cX7_reach 20 = .ok (.iload 7, 2) := by decide +kernel
theorem dX7_reach_22 : decode cX7_reach 22 = .ok (.aload_n 0, 1) := by decide +kernel
theorem dX7_reach_23 : decode cX7_reach 23 = .ok (.getfield 7, 3) := by decide +kernel
theorem dX7_reach_26 : decode cX7_reach 26 = .ok (.iconst 0, 1) := by decide +kernel
theorem dX7_reach_27 : decode cX7_reach 27 = .ok (.iaload, 1) := by decide +kernel
theorem dX7_reach_28 : decode cX7_reach 28 = .ok (.if_icmp .ge 65, 3) := by decide +kernel
theorem dX7_reach_31 : decode cX7_reach 31 = .ok (.iconst 1, 1) := by decide +kernel
theorem dX7_reach_32 : decode cX7_reach 32 = .ok (.aload_n 0, 1) := by decide +kernel
theorem dX7_reach_33 : decode cX7_reach 33 = .ok (.getfield 7, 3) := by decide +kernel
theorem dX7_reach_36 : decode cX7_reach 36 = .ok (.iconst 1, 1) := by decide +kernel
theorem dX7_reach_37 : decode cX7_reach 37 = .ok (.iload 7, 2) := by decide +kernel
theorem dX7_reach_39 : decode cX7_reach 39 = .ok (.iadd, 1) := by decide +kernel
theorem dX7_reach_40 : decode cX7_reach 40 = .ok (.iaload, 1) := by decide +kernel
theorem dX7_reach_41 : decode cX7_reach 41 = .ok (.ishl, 1) := by decide +kernel
theorem dX7_reach_42 : decode cX7_reach 42 = .ok (.iconst 1, 1) := by decide +kernel
theorem dX7_reach_43 : decode cX7_reach 43 = .ok (.aload_n 0, 1) := by decide +kernel
theorem dX7_reach_44 : decode cX7_reach 44 = .ok (.getfield 7, 3) := by decide +kernel
theorem dX7_reach_47 : decode cX7_reach 47 = .ok (.bipush 41, 2) := by decide +kernel
theorem dX7_reach_49 : decode cX7_reach 49 = .ok (.iload 7, 2) := by decide +kernel
theorem dX7_reach_51 : decode cX7_reach 51 = .ok (.iadd, 1) := by decide +kernel
theorem dX7_reach_52 : decode cX7_reach 52 = .ok (.iaload, 1) := by decide +kernel
theorem dX7_reach_53 : decode cX7_reach 53 = .ok (.ishl, 1) := by decide +kernel
theorem dX7_reach_54 : decode cX7_reach 54 = .ok (.ior, 1) := by decide +kernel
theorem dX7_reach_55 : decode cX7_reach 55 = .ok (.istore 8, 2) := by decide +kernel
theorem dX7_reach_57 : decode cX7_reach 57 = .ok (.iload 4, 2) := by decide +kernel
theorem dX7_reach_59 : decode cX7_reach 59 = .ok (.lload_n 1, 1) := by decide +kernel
theorem dX7_reach_60 : decode cX7_reach 60 = .ok (.iload 7, 2) := by decide +kernel
theorem dX7_reach_62 : decode cX7_reach 62 = .ok (.lshr, 1) := by decide +kernel
theorem dX7_reach_63 : decode cX7_reach 63 = .ok (.lconst 1, 1) := by decide +kernel
theorem dX7_reach_64 : decode cX7_reach 64 = .ok (.land, 1) := by decide +kernel
theorem dX7_reach_65 : decode cX7_reach 65 = .ok (.lconst 1, 1) := by decide +kernel
theorem dX7_reach_66 : decode cX7_reach 66 = .ok (.lcmp, 1) := by decide +kernel
theorem dX7_reach_67 : decode cX7_reach 67 = .ok (.ifCond .ne 16, 3) := by decide +kernel
theorem dX7_reach_70 : decode cX7_reach 70 = .ok (.iload 4, 2) := by decide +kernel
theorem dX7_reach_72 : decode cX7_reach 72 = .ok (.iload 8, 2) := by decide +kernel
theorem dX7_reach_74 : decode cX7_reach 74 = .ok (.iand, 1) := by decide +kernel
theorem dX7_reach_75 : decode cX7_reach 75 = .ok (.ifCond .eq 8, 3) := by decide +kernel
theorem dX7_reach_78 : decode cX7_reach 78 = .ok (.iload 8, 2) := by decide +kernel
theorem dX7_reach_80 : decode cX7_reach 80 = .ok (.goto 4, 3) := by decide +kernel
theorem dX7_reach_83 : decode cX7_reach 83 = .ok (.iconst 0, 1) := by decide +kernel
theorem dX7_reach_84 : decode cX7_reach 84 = .ok (.ior, 1) := by decide +kernel
theorem dX7_reach_85 : decode cX7_reach 85 = .ok (.istore 4, 2) := by decide +kernel
theorem dX7_reach_87 : decode cX7_reach 87 = .ok (.iinc 7 1, 3) := by decide +kernel
theorem dX7_reach_90 : decode cX7_reach 90 = .ok (.goto (-70), 3) := by decide +kernel
theorem dX7_reach_93 : decode cX7_reach 93 = .ok (.iload 4, 2) := by decide +kernel
theorem dX7_reach_95 : decode cX7_reach 95 = .ok (.iload 6, 2) := by decide +kernel
theorem dX7_reach_97 : decode cX7_reach 97 = .ok (.if_icmp .eq 7, 3) := by decide +kernel
theorem dX7_reach_100 : decode cX7_reach 100 = .ok (.iconst 1, 1) := by decide +kernel
theorem dX7_reach_101 : decode cX7_reach 101 = .ok (.goto 4, 3) := by decide +kernel
theorem dX7_reach_104 : decode cX7_reach 104 = .ok (.iconst 0, 1) := by decide +kernel
theorem dX7_reach_105 : decode cX7_reach 105 = .ok (.istore 5, 2) := by decide +kernel
theorem dX7_reach_107 : decode cX7_reach 107 = .ok (.goto (-99), 3) := by decide +kernel
theorem dX7_reach_110 : decode cX7_reach 110 = .ok (.iload 4, 2) := by decide +kernel
theorem dX7_reach_112 : decode cX7_reach 112 = .ok (.ireturn, 1) := by decide +kernel
theorem dX7_join_0 : decode cX7_join 0 = .ok (.aload_n 0, 1) := by decide +kernel
theorem dX7_join_1 : decode cX7_join 1 = .ok (.lload_n 1, 1) := by decide +kernel
theorem dX7_join_2 : decode cX7_join 2 = .ok (.iload_n 3, 1) := by decide +kernel
theorem dX7_join_3 : decode cX7_join 3 = .ok (.invokevirtual 54, 3) := by decide +kernel
theorem dX7_join_6 : decode cX7_join 6 = .ok (.iload 4, 2) := by decide +kernel
theorem dX7_join_8 : decode cX7_join 8 = .ok (.ishr, 1) := by decide +kernel
theorem dX7_join_9 : decode cX7_join 9 = .ok (.iconst 1, 1) := by decide +kernel
theorem dX7_join_10 : decode cX7_join 10 = .ok (.iand, 1) := by decide +kernel
theorem dX7_join_11 : decode cX7_join 11 = .ok (.iconst 1, 1) := by decide +kernel
theorem dX7_join_12 : decode cX7_join 12 = .ok (.if_icmp .ne 7, 3) := by decide +kernel
theorem dX7_join_15 : decode cX7_join 15 = .ok (.iconst 1, 1) := by decide +kernel
theorem dX7_join_16 : decode cX7_join 16 = .ok (.goto 4, 3) := by decide +kernel
theorem dX7_join_19 : decode cX7_join 19 = .ok (.iconst 0, 1) := by decide +kernel
theorem dX7_join_20 : decode cX7_join 20 = .ok (.ireturn, 1) := by decide +kernel
theorem dX7_parts_0 : decode cX7_parts 0 = .ok (.iconst 0, 1) := by decide +kernel
theorem dX7_parts_1 : decode cX7_parts 1 = .ok (.istore_n 3, 1) := by decide +kernel
theorem dX7_parts_2 : decode cX7_parts 2 = .ok (.iconst 0, 1) := by decide +kernel
theorem dX7_parts_3 : decode cX7_parts 3 = .ok (.istore 4, 2) := by decide +kernel
theorem dX7_parts_5 : decode cX7_parts 5 = .ok (.iconst 0, 1) := by decide +kernel
theorem dX7_parts_6 : decode cX7_parts 6 = .ok (.istore 5, 2) := by decide +kernel
theorem dX7_parts_8 : decode cX7_parts 8 = .ok (.iload 5, 2) := by decide +kernel
theorem dX7_parts_10 : decode cX7_parts 10 = .ok (.bipush 16, 2) := by decide +kernel
theorem dX7_parts_12 : decode cX7_parts 12 = .ok (.if_icmp .ge 34, 3) := by decide +kernel
theorem dX7_parts_15 : decode cX7_parts 15 = .ok (.iload 4, 2) := by decide +kernel
theorem dX7_parts_17 : decode cX7_parts 17 = .ok (.iload 5, 2) := by decide +kernel
theorem dX7_parts_19 : decode cX7_parts 19 = .ok (.ishr, 1) := by decide +kernel
theorem dX7_parts_20 : decode cX7_parts 20 = .ok (.iconst 1, 1) := by decide +kernel
theorem dX7_parts_21 : decode cX7_parts 21 = .ok (.iand, 1) := by decide +kernel
theorem dX7_parts_22 : decode cX7_parts 22 = .ok (.ifCond .ne 18, 3) := by decide +kernel
theorem dX7_parts_25 : decode cX7_parts 25 = .ok (.iload 4, 2) := by decide +kernel
theorem dX7_parts_27 : decode cX7_parts 27 = .ok (.aload_n 0, 1) := by decide +kernel
theorem dX7_parts_28 : decode cX7_parts 28 = .ok (.lload_n 1, 1) := by decide +kernel
theorem dX7_parts_29 : decode cX7_parts 29 = .ok (.iload 5, 2) := by decide +kernel
theorem dX7_parts_31 : decode cX7_parts 31 = .ok (.invokevirtual 54, 3) := by decide +kernel
theorem dX7_parts_34 : decode cX7_parts 34 = .ok (.ior, 1) := by decide +kernel
theorem dX7_parts_35 : decode cX7_parts 35 = .ok (.istore 4, 2) := by decide +kernel
theorem dX7_parts_37 : decode cX7_parts 37 = .ok (.iinc 3 1, 3) := by decide +kernel
theorem dX7_parts_40 : decode cX7_parts 40 = .ok (.iinc 5 1, 3) := by decide +kernel
theorem dX7_parts_43 : decode cX7_parts 43 = .ok (.goto (-35), 3) := by decide +kernel
theorem dX7_parts_46 : decode cX7_parts 46 = .ok (.iload_n 3, 1) := by decide +kernel
theorem dX7_parts_47 : decode cX7_parts 47 = .ok (.ireturn, 1) := by decide +kernel
theorem dX7_isNeeded_0 : decode cX7_isNeeded 0 = .ok (.aload_n 0, 1) := by decide +kernel
theorem dX7_isNeeded_1 : decode cX7_isNeeded 1 = .ok (.lload_n 1, 1) := by decide +kernel
theorem dX7_isNeeded_2 : decode cX7_isNeeded 2 = .ok (.lconst 1, 1) := by decide +kernel
theorem dX7_isNeeded_3 : decode cX7_isNeeded 3 = .ok (.iload_n 3, 1) := by decide +kernel
theorem dX7_isNeeded_4 : decode cX7_isNeeded 4 = .ok (.lshl, 1) := by decide +kernel
theorem dX7_isNeeded_5 : decode cX7_isNeeded 5 = .ok (.ldc2_w 58, 3) := by decide +kernel
theorem dX7_isNeeded_8 : decode cX7_isNeeded 8 = .ok (.lxor, 1) := by decide +kernel
theorem dX7_isNeeded_9 : decode cX7_isNeeded 9 = .ok (.land, 1) := by decide +kernel
theorem dX7_isNeeded_10 : decode cX7_isNeeded 10 = .ok (.aload_n 0, 1) := by decide +kernel
theorem dX7_isNeeded_11 : decode cX7_isNeeded 11 = .ok (.getfield 7, 3) := by decide +kernel
theorem dX7_isNeeded_14 : decode cX7_isNeeded 14 = .ok (.iconst 1, 1) := by decide +kernel
theorem dX7_isNeeded_15 : decode cX7_isNeeded 15 = .ok (.iload_n 3, 1) := by decide +kernel
theorem dX7_isNeeded_16 : decode cX7_isNeeded 16 = .ok (.iadd, 1) := by decide +kernel
theorem dX7_isNeeded_17 : decode cX7_isNeeded 17 = .ok (.iaload, 1) := by decide +kernel
theorem dX7_isNeeded_18 : decode cX7_isNeeded 18 = .ok (.aload_n 0, 1) := by decide +kernel
theorem dX7_isNeeded_19 : decode cX7_isNeeded 19 = .ok (.getfield 7, 3) := by decide +kernel
theorem dX7_isNeeded_22 : decode cX7_isNeeded 22 = .ok (.bipush 41, 2) := by decide +kernel
theorem dX7_isNeeded_24 : decode cX7_isNeeded 24 = .ok (.iload_n 3, 1) := by decide +kernel
theorem dX7_isNeeded_25 : decode cX7_isNeeded 25 = .ok (.iadd, 1) := by decide +kernel
theorem dX7_isNeeded_26 : decode cX7_isNeeded 26 = .ok (.iaload, 1) := by decide +kernel
theorem dX7_isNeeded_27 : decode cX7_isNeeded 27 = .ok (.invokevirtual 60, 3) := by decide +kernel
theorem dX7_isNeeded_30 : decode cX7_isNeeded 30 = .ok (.ifCond .ne 7, 3) := by decide +kernel
theorem dX7_isNeeded_33 : decode cX7_isNeeded 33 = .ok (.iconst 1, 1) := by decide +kernel
theorem dX7_isNeeded_34 : decode cX7_isNeeded 34 = .ok (.goto 4, 3) := by decide +kernel
theorem dX7_isNeeded_37 : decode cX7_isNeeded 37 = .ok (.iconst 0, 1) := by decide +kernel
theorem dX7_isNeeded_38 : decode cX7_isNeeded 38 = .ok (.ireturn, 1) := by decide +kernel
theorem dX7_isOdd_0 : decode cX7_isOdd 0 = .ok (.iconst 0, 1) := by decide +kernel
theorem dX7_isOdd_1 : decode cX7_isOdd 1 = .ok (.istore_n 3, 1) := by decide +kernel
theorem dX7_isOdd_2 : decode cX7_isOdd 2 = .ok (.iconst 0, 1) := by decide +kernel
theorem dX7_isOdd_3 : decode cX7_isOdd 3 = .ok (.istore 4, 2) := by decide +kernel
theorem dX7_isOdd_5 : decode cX7_isOdd 5 = .ok (.iconst 0, 1) := by decide +kernel
theorem dX7_isOdd_6 : decode cX7_isOdd 6 = .ok (.istore 5, 2) := by decide +kernel
theorem dX7_isOdd_8 : decode cX7_isOdd 8 = .ok (.iload 5, 2) := by decide +kernel
theorem dX7_isOdd_10 : decode cX7_isOdd 10 = .ok (.bipush 16, 2) := by decide +kernel
theorem dX7_isOdd_12 : decode cX7_isOdd 12 = .ok (.if_icmp .ge 221, 3) := by decide +kernel
theorem dX7_isOdd_15 : decode cX7_isOdd 15 = .ok (.iload_n 3, 1) := by decide +kernel
theorem dX7_isOdd_16 : decode cX7_isOdd 16 = .ok (.iload 4, 2) := by decide +kernel
theorem dX7_isOdd_18 : decode cX7_isOdd 18 = .ok (.ior, 1) := by decide +kernel
theorem dX7_isOdd_19 : decode cX7_isOdd 19 = .ok (.iload 5, 2) := by decide +kernel
theorem dX7_isOdd_21 : decode cX7_isOdd 21 = .ok (.ishr, 1) := by decide +kernel
theorem dX7_isOdd_22 : decode cX7_isOdd 22 = .ok (.iconst 1, 1) := by decide +kernel
theorem dX7_isOdd_23 : decode cX7_isOdd 23 = .ok (.iand, 1) := by decide +kernel
theorem dX7_isOdd_24 : decode cX7_isOdd 24 = .ok (.ifCond .ne 203, 3) := by decide +kernel
theorem dX7_isOdd_27 : decode cX7_isOdd 27 = .ok (.iload_n 3, 1) := by decide +kernel
theorem dX7_isOdd_28 : decode cX7_isOdd 28 = .ok (.iconst 1, 1) := by decide +kernel
theorem dX7_isOdd_29 : decode cX7_isOdd 29 = .ok (.iload 5, 2) := by decide +kernel
theorem dX7_isOdd_31 : decode cX7_isOdd 31 = .ok (.ishl, 1) := by decide +kernel
theorem dX7_isOdd_32 : decode cX7_isOdd 32 = .ok (.ior, 1) := by decide +kernel
theorem dX7_isOdd_33 : decode cX7_isOdd 33 = .ok (.istore_n 3, 1) := by decide +kernel
theorem dX7_isOdd_34 : decode cX7_isOdd 34 = .ok (.iconst 1, 1) := by decide +kernel
theorem dX7_isOdd_35 : decode cX7_isOdd 35 = .ok (.istore 6, 2) := by decide +kernel
theorem dX7_isOdd_37 : decode cX7_isOdd 37 = .ok (.iload 6, 2) := by decide +kernel
theorem dX7_isOdd_39 : decode cX7_isOdd 39 = .ok (.ifCond .eq 188, 3) := by decide +kernel
theorem dX7_isOdd_42 : decode cX7_isOdd 42 = .ok (.iload_n 3, 1) := by decide +kernel
theorem dX7_isOdd_43 : decode cX7_isOdd 43 = .ok (.istore 7, 2) := by decide +kernel
theorem dX7_isOdd_45 : decode cX7_isOdd 45 = .ok (.iload 4, 2) := by decide +kernel
theorem dX7_isOdd_47 : decode cX7_isOdd 47 = .ok (.istore 8, 2) := by decide +kernel
theorem dX7_isOdd_49 : decode cX7_isOdd 49 = .ok (.iconst 0, 1) := by decide +kernel
theorem dX7_isOdd_50 : decode cX7_isOdd 50 = .ok (.istore 9, 2) := by decide +kernel
theorem dX7_isOdd_52 : decode cX7_isOdd 52 = .ok (.iload 9, 2) := by decide +kernel
theorem dX7_isOdd_54 : decode cX7_isOdd 54 = .ok (.aload_n 0, 1) := by decide +kernel
theorem dX7_isOdd_55 : decode cX7_isOdd 55 = .ok (.getfield 7, 3) := by decide +kernel
theorem dX7_isOdd_58 : decode cX7_isOdd 58 = .ok (.iconst 0, 1) := by decide +kernel
theorem dX7_isOdd_59 : decode cX7_isOdd 59 = .ok (.iaload, 1) := by decide +kernel
theorem dX7_isOdd_60 : decode cX7_isOdd 60 = .ok (.if_icmp .ge 144, 3) := by decide +kernel
theorem dX7_isOdd_63 : decode cX7_isOdd 63 = .ok (.iconst 1, 1) := by decide +kernel
theorem dX7_isOdd_64 : decode cX7_isOdd 64 = .ok (.aload_n 0, 1) := by decide +kernel
theorem dX7_isOdd_65 : decode cX7_isOdd 65 = .ok (.getfield 7, 3) := by decide +kernel
theorem dX7_isOdd_68 : decode cX7_isOdd 68 = .ok (.iconst 1, 1) := by decide +kernel
theorem dX7_isOdd_69 : decode cX7_isOdd 69 = .ok (.iload 9, 2) := by decide +kernel
theorem dX7_isOdd_71 : decode cX7_isOdd 71 = .ok (.iadd, 1) := by decide +kernel
theorem dX7_isOdd_72 : decode cX7_isOdd 72 = .ok (.iaload, 1) := by decide +kernel
theorem dX7_isOdd_73 : decode cX7_isOdd 73 = .ok (.ishl, 1) := by decide +kernel
theorem dX7_isOdd_74 : decode cX7_isOdd 74 = .ok (.istore 10, 2) := by decide +kernel
theorem dX7_isOdd_76 : decode cX7_isOdd 76 = .ok (.iconst 1, 1) := by decide +kernel
theorem dX7_isOdd_77 : decode cX7_isOdd 77 = .ok (.aload_n 0, 1) := by decide +kernel
theorem dX7_isOdd_78 : decode cX7_isOdd 78 = .ok (.getfield 7, 3) := by decide +kernel
theorem dX7_isOdd_81 : decode cX7_isOdd 81 = .ok (.bipush 41, 2) := by decide +kernel
theorem dX7_isOdd_83 : decode cX7_isOdd 83 = .ok (.iload 9, 2) := by decide +kernel
theorem dX7_isOdd_85 : decode cX7_isOdd 85 = .ok (.iadd, 1) := by decide +kernel
theorem dX7_isOdd_86 : decode cX7_isOdd 86 = .ok (.iaload, 1) := by decide +kernel
theorem dX7_isOdd_87 : decode cX7_isOdd 87 = .ok (.ishl, 1) := by decide +kernel
theorem dX7_isOdd_88 : decode cX7_isOdd 88 = .ok (.istore 11, 2) := by decide +kernel
theorem dX7_isOdd_90 : decode cX7_isOdd 90 = .ok (.lload_n 1, 1) := by decide +kernel
theorem dX7_isOdd_91 : decode cX7_isOdd 91 = .ok (.iload 9, 2) := by decide +kernel
theorem dX7_isOdd_93 : decode cX7_isOdd 93 = .ok (.lshr, 1) := by decide +kernel
theorem dX7_isOdd_94 : decode cX7_isOdd 94 = .ok (.lconst 1, 1) := by decide +kernel
theorem dX7_isOdd_95 : decode cX7_isOdd 95 = .ok (.land, 1) := by decide +kernel
theorem dX7_isOdd_96 : decode cX7_isOdd 96 = .ok (.lconst 1, 1) := by decide +kernel
theorem dX7_isOdd_97 : decode cX7_isOdd 97 = .ok (.lcmp, 1) := by decide +kernel
theorem dX7_isOdd_98 : decode cX7_isOdd 98 = .ok (.ifCond .ne 7, 3) := by decide +kernel
theorem dX7_isOdd_101 : decode cX7_isOdd 101 = .ok (.iconst 1, 1) := by decide +kernel
theorem dX7_isOdd_102 : decode cX7_isOdd 102 = .ok (.goto 4, 3) := by decide +kernel
theorem dX7_isOdd_105 : decode cX7_isOdd 105 = .ok (.iconst 0, 1) := by decide +kernel
theorem dX7_isOdd_106 : decode cX7_isOdd 106 = .ok (.istore 12, 2) := by decide +kernel
theorem dX7_isOdd_108 : decode cX7_isOdd 108 = .ok (.iload 4, 2) := by decide +kernel
theorem dX7_isOdd_110 : decode cX7_isOdd 110 = .ok (.iload 12, 2) := by decide +kernel
theorem dX7_isOdd_112 : decode cX7_isOdd 112 = .ok (.ifCond .eq 15, 3) := by decide +kernel
theorem dX7_isOdd_115 : decode cX7_isOdd 115 = .ok (.iload_n 3, 1) := by decide +kernel
theorem dX7_isOdd_116 : decode cX7_isOdd 116 = .ok (.iload 10, 2) := by decide +kernel
theorem dX7_isOdd_118 : decode cX7_isOdd 118 = .ok (.iand, 1) := by decide +kernel
theorem dX7_isOdd_119 : decode cX7_isOdd 119 = .ok (.ifCond .eq 8, 3) := by decide +kernel
theorem dX7_isOdd_122 : decode cX7_isOdd 122 = .ok (.iload 11, 2) := by decide +kernel
theorem dX7_isOdd_124 : decode cX7_isOdd 124 = .ok (.goto 4, 3) := by decide +kernel
theorem dX7_isOdd_127 : decode cX7_isOdd 127 = .ok (.iconst 0, 1) := by decide +kernel
theorem dX7_isOdd_128 : decode cX7_isOdd 128 = .ok (.ior, 1) := by decide +kernel
theorem dX7_isOdd_129 : decode cX7_isOdd 129 = .ok (.istore 4, 2) := by decide +kernel
theorem dX7_isOdd_131 : decode cX7_isOdd 131 = .ok (.iload 4, 2) := by decide +kernel
theorem dX7_isOdd_133 : decode cX7_isOdd 133 = .ok (.iload 12, 2) := by decide +kernel
theorem dX7_isOdd_135 : decode cX7_isOdd 135 = .ok (.ifCond .eq 15, 3) := by decide +kernel
theorem dX7_isOdd_138 : decode cX7_isOdd 138 = .ok (.iload_n 3, 1) := by decide +kernel
theorem dX7_isOdd_139 : decode cX7_isOdd 139 = .ok (.iload 11, 2) := by decide +kernel
theorem dX7_isOdd_141 : decode cX7_isOdd 141 = .ok (.iand, 1) := by decide +kernel
theorem dX7_isOdd_142 : decode cX7_isOdd 142 = .ok (.ifCond .eq 8, 3) := by decide +kernel
theorem dX7_isOdd_145 : decode cX7_isOdd 145 = .ok (.iload 10, 2) := by decide +kernel
theorem dX7_isOdd_147 : decode cX7_isOdd 147 = .ok (.goto 4, 3) := by decide +kernel
theorem dX7_isOdd_150 : decode cX7_isOdd 150 = .ok (.iconst 0, 1) := by decide +kernel
theorem dX7_isOdd_151 : decode cX7_isOdd 151 = .ok (.ior, 1) := by decide +kernel
theorem dX7_isOdd_152 : decode cX7_isOdd 152 = .ok (.istore 4, 2) := by decide +kernel
theorem dX7_isOdd_154 : decode cX7_isOdd 154 = .ok (.iload_n 3, 1) := by decide +kernel
theorem dX7_isOdd_155 : decode cX7_isOdd 155 = .ok (.iload 12, 2) := by decide +kernel
theorem dX7_isOdd_157 : decode cX7_isOdd 157 = .ok (.ifCond .eq 16, 3) := by decide +kernel
theorem dX7_isOdd_160 : decode cX7_isOdd 160 = .ok (.iload 4, 2) := by decide +kernel
theorem dX7_isOdd_162 : decode cX7_isOdd 162 = .ok (.iload 10, 2) := by decide +kernel
theorem dX7_isOdd_164 : decode cX7_isOdd 164 = .ok (.iand, 1) := by decide +kernel
theorem dX7_isOdd_165 : decode cX7_isOdd 165 = .ok (.ifCond .eq 8, 3) := by decide +kernel
theorem dX7_isOdd_168 : decode cX7_isOdd 168 = .ok (.iload 11, 2) := by decide +kernel
theorem dX7_isOdd_170 : decode cX7_isOdd 170 = .ok (.goto 4, 3) := by decide +kernel
theorem dX7_isOdd_173 : decode cX7_isOdd 173 = .ok (.iconst 0, 1) := by decide +kernel
theorem dX7_isOdd_174 : decode cX7_isOdd 174 = .ok (.ior, 1) := by decide +kernel
theorem dX7_isOdd_175 : decode cX7_isOdd 175 = .ok (.istore_n 3, 1) := by decide +kernel
theorem dX7_isOdd_176 : decode cX7_isOdd 176 = .ok (.iload_n 3, 1) := by decide +kernel
theorem dX7_isOdd_177 : decode cX7_isOdd 177 = .ok (.iload 12, 2) := by decide +kernel
theorem dX7_isOdd_179 : decode cX7_isOdd 179 = .ok (.ifCond .eq 16, 3) := by decide +kernel
theorem dX7_isOdd_182 : decode cX7_isOdd 182 = .ok (.iload 4, 2) := by decide +kernel
theorem dX7_isOdd_184 : decode cX7_isOdd 184 = .ok (.iload 11, 2) := by decide +kernel
theorem dX7_isOdd_186 : decode cX7_isOdd 186 = .ok (.iand, 1) := by decide +kernel
theorem dX7_isOdd_187 : decode cX7_isOdd 187 = .ok (.ifCond .eq 8, 3) := by decide +kernel
theorem dX7_isOdd_190 : decode cX7_isOdd 190 = .ok (.iload 10, 2) := by decide +kernel
theorem dX7_isOdd_192 : decode cX7_isOdd 192 = .ok (.goto 4, 3) := by decide +kernel
theorem dX7_isOdd_195 : decode cX7_isOdd 195 = .ok (.iconst 0, 1) := by decide +kernel
theorem dX7_isOdd_196 : decode cX7_isOdd 196 = .ok (.ior, 1) := by decide +kernel
theorem dX7_isOdd_197 : decode cX7_isOdd 197 = .ok (.istore_n 3, 1) := by decide +kernel
theorem dX7_isOdd_198 : decode cX7_isOdd 198 = .ok (.iinc 9 1, 3) := by decide +kernel
theorem dX7_isOdd_201 : decode cX7_isOdd 201 = .ok (.goto (-149), 3) := by decide +kernel
theorem dX7_isOdd_204 : decode cX7_isOdd 204 = .ok (.iload_n 3, 1) := by decide +kernel
theorem dX7_isOdd_205 : decode cX7_isOdd 205 = .ok (.iload 7, 2) := by decide +kernel
theorem dX7_isOdd_207 : decode cX7_isOdd 207 = .ok (.if_icmp .ne 10, 3) := by decide +kernel
theorem dX7_isOdd_210 : decode cX7_isOdd 210 = .ok (.iload 4, 2) := by decide +kernel
theorem dX7_isOdd_212 : decode cX7_isOdd 212 = .ok (.iload 8, 2) := by decide +kernel
theorem dX7_isOdd_214 : decode cX7_isOdd 214 = .ok (.if_icmp .eq 7, 3) := by decide +kernel
theorem dX7_isOdd_217 : decode cX7_isOdd 217 = .ok (.iconst 1, 1) := by decide +kernel
theorem dX7_isOdd_218 : decode cX7_isOdd 218 = .ok (.goto 4, 3) := by decide +kernel
theorem dX7_isOdd_221 : decode cX7_isOdd 221 = .ok (.iconst 0, 1) := by decide +kernel
theorem dX7_isOdd_222 : decode cX7_isOdd 222 = .ok (.istore 6, 2) := by decide +kernel
theorem dX7_isOdd_224 : decode cX7_isOdd 224 = .ok (.goto (-187), 3) := by decide +kernel
theorem dX7_isOdd_227 : decode cX7_isOdd 227 = .ok (.iinc 5 1, 3) := by decide +kernel
theorem dX7_isOdd_230 : decode cX7_isOdd 230 = .ok (.goto (-222), 3) := by decide +kernel
theorem dX7_isOdd_233 : decode cX7_isOdd 233 = .ok (.iload_n 3, 1) := by decide +kernel
theorem dX7_isOdd_234 : decode cX7_isOdd 234 = .ok (.iload 4, 2) := by decide +kernel
theorem dX7_isOdd_236 : decode cX7_isOdd 236 = .ok (.iand, 1) := by decide +kernel
theorem dX7_isOdd_237 : decode cX7_isOdd 237 = .ok (.ifCond .eq 7, 3) := by decide +kernel
theorem dX7_isOdd_240 : decode cX7_isOdd 240 = .ok (.iconst 1, 1) := by decide +kernel
theorem dX7_isOdd_241 : decode cX7_isOdd 241 = .ok (.goto 4, 3) := by decide +kernel
theorem dX7_isOdd_244 : decode cX7_isOdd 244 = .ok (.iconst 0, 1) := by decide +kernel
theorem dX7_isOdd_245 : decode cX7_isOdd 245 = .ok (.ireturn, 1) := by decide +kernel
theorem dX7_spanLong_0 : decode cX7_spanLong 0 = .ok (.bipush 64, 2) := by decide +kernel
theorem dX7_spanLong_2 : decode cX7_spanLong 2 = .ok (.iload_n 0, 1) := by decide +kernel
theorem dX7_spanLong_3 : decode cX7_spanLong 3 = .ok (.ishr, 1) := by decide +kernel
theorem dX7_spanLong_4 : decode cX7_spanLong 4 = .ok (.ireturn, 1) := by decide +kernel
theorem dX7_begin_0 : decode cX7_begin 0 = .ok (.iload_n 0, 1) := by decide +kernel
theorem dX7_begin_1 : decode cX7_begin 1 = .ok (.iload_n 0, 1) := by decide +kernel
theorem dX7_begin_2 : decode cX7_begin 2 = .ok (.iload_n 1, 1) := by decide +kernel
theorem dX7_begin_3 : decode cX7_begin 3 = .ok (.invokestatic 64, 3) := by decide +kernel
theorem dX7_begin_6 : decode cX7_begin 6 = .ok (.irem, 1) := by decide +kernel
theorem dX7_begin_7 : decode cX7_begin 7 = .ok (.isub, 1) := by decide +kernel
theorem dX7_begin_8 : decode cX7_begin 8 = .ok (.ireturn, 1) := by decide +kernel
theorem dX7_covers_0 : decode cX7_covers 0 = .ok (.iload_n 2, 1) := by decide +kernel
theorem dX7_covers_1 : decode cX7_covers 1 = .ok (.iload_n 3, 1) := by decide +kernel
theorem dX7_covers_2 : decode cX7_covers 2 = .ok (.invokestatic 68, 3) := by decide +kernel
theorem dX7_covers_5 : decode cX7_covers 5 = .ok (.istore 4, 2) := by decide +kernel
theorem dX7_covers_7 : decode cX7_covers 7 = .ok (.aload_n 0, 1) := by decide +kernel
theorem dX7_covers_8 : decode cX7_covers 8 = .ok (.iload_n 1, 1) := by decide +kernel
theorem dX7_covers_9 : decode cX7_covers 9 = .ok (.iload 4, 2) := by decide +kernel
theorem dX7_covers_11 : decode cX7_covers 11 = .ok (.iload 4, 2) := by decide +kernel
theorem dX7_covers_13 : decode cX7_covers 13 = .ok (.iload_n 3, 1) := by decide +kernel
theorem dX7_covers_14 : decode cX7_covers 14 = .ok (.invokestatic 64, 3) := by decide +kernel
theorem dX7_covers_17 : decode cX7_covers 17 = .ok (.iadd, 1) := by decide +kernel
theorem dX7_covers_18 : decode cX7_covers 18 = .ok (.invokevirtual 46, 3) := by decide +kernel
theorem dX7_covers_21 : decode cX7_covers 21 = .ok (.ireturn, 1) := by decide +kernel
theorem dX7_laidAt_0 : decode cX7_laidAt 0 = .ok (.lconst 0, 1) := by decide +kernel
theorem dX7_laidAt_1 : decode cX7_laidAt 1 = .ok (.lstore_n 3, 1) := by decide +kernel
theorem dX7_laidAt_2 : decode cX7_laidAt 2 = .ok (.iconst 0, 1) := by decide +kernel
theorem dX7_laidAt_3 : decode cX7_laidAt 3 = .ok (.istore 5, 2) := by decide +kernel
theorem dX7_laidAt_5 : decode cX7_laidAt 5 = .ok (.iload 5, 2) := by decide +kernel
theorem dX7_laidAt_7 : decode cX7_laidAt 7 = .ok (.aload_n 0, 1) := by decide +kernel
theorem dX7_laidAt_8 : decode cX7_laidAt 8 = .ok (.getfield 7, 3) := by decide +kernel
theorem dX7_laidAt_11 : decode cX7_laidAt 11 = .ok (.iconst 0, 1) := by decide +kernel
theorem dX7_laidAt_12 : decode cX7_laidAt 12 = .ok (.iaload, 1) := by decide +kernel
theorem dX7_laidAt_13 : decode cX7_laidAt 13 = .ok (.if_icmp .ge 48, 3) := by decide +kernel
theorem dX7_laidAt_16 : decode cX7_laidAt 16 = .ok (.lload_n 3, 1) := by decide +kernel
theorem dX7_laidAt_17 : decode cX7_laidAt 17 = .ok (.aload_n 0, 1) := by decide +kernel
theorem dX7_laidAt_18 : decode cX7_laidAt 18 = .ok (.iload 5, 2) := by decide +kernel
theorem dX7_laidAt_20 : decode cX7_laidAt 20 = .ok (.iload_n 1, 1) := by decide +kernel
theorem dX7_laidAt_21 : decode cX7_laidAt 21 = .ok (.iload_n 2, 1) := by decide +kernel
theorem dX7_laidAt_22 : decode cX7_laidAt 22 = .ok (.invokevirtual 72, 3) := by decide +kernel
theorem dX7_laidAt_25 : decode cX7_laidAt 25 = .ok (.ifCond .eq 27, 3) := by decide +kernel
theorem dX7_laidAt_28 : decode cX7_laidAt 28 = .ok (.iload_n 2, 1) := by decide +kernel
theorem dX7_laidAt_29 : decode cX7_laidAt 29 = .ok (.ifCond .eq 16, 3) := by decide +kernel
theorem dX7_laidAt_32 : decode cX7_laidAt 32 = .ok (.aload_n 0, 1) := by decide +kernel
theorem dX7_laidAt_33 : decode cX7_laidAt 33 = .ok (.iload 5, 2) := by decide +kernel
theorem dX7_laidAt_35 : decode cX7_laidAt 35 = .ok (.iload_n 1, 1) := by decide +kernel
theorem dX7_laidAt_36 : decode cX7_laidAt 36 = .ok (.iload_n 2, 1) := by decide +kernel
theorem dX7_laidAt_37 : decode cX7_laidAt 37 = .ok (.iconst 1, 1) := by decide +kernel
theorem dX7_laidAt_38 : decode cX7_laidAt 38 = .ok (.isub, 1) := by decide +kernel
theorem dX7_laidAt_39 : decode cX7_laidAt 39 = .ok (.invokevirtual 72, 3) := by decide +kernel
theorem dX7_laidAt_42 : decode cX7_laidAt 42 = .ok (.ifCond .ne 10, 3) := by decide +kernel
theorem dX7_laidAt_45 : decode cX7_laidAt 45 = .ok (.lconst 1, 1) := by decide +kernel
theorem dX7_laidAt_46 : decode cX7_laidAt 46 = .ok (.iload 5, 2) := by decide +kernel
theorem dX7_laidAt_48 : decode cX7_laidAt 48 = .ok (.lshl, 1) := by decide +kernel
theorem dX7_laidAt_49 : decode cX7_laidAt 49 = .ok (.goto 4, 3) := by decide +kernel
theorem dX7_laidAt_52 : decode cX7_laidAt 52 = .ok (.lconst 0, 1) := by decide +kernel
theorem dX7_laidAt_53 : decode cX7_laidAt 53 = .ok (.lor, 1) := by decide +kernel
theorem dX7_laidAt_54 : decode cX7_laidAt 54 = .ok (.lstore_n 3, 1) := by decide +kernel
theorem dX7_laidAt_55 : decode cX7_laidAt 55 = .ok (.iinc 5 1, 3) := by decide +kernel
theorem dX7_laidAt_58 : decode cX7_laidAt 58 = .ok (.goto (-53), 3) := by decide +kernel
theorem dX7_laidAt_61 : decode cX7_laidAt 61 = .ok (.lload_n 3, 1) := by decide +kernel
theorem dX7_laidAt_62 : decode cX7_laidAt 62 = .ok (.lreturn, 1) := by decide +kernel
theorem dX7_livingAll_0 : decode cX7_livingAll 0 = .ok (.lconst 0, 1) := by decide +kernel
theorem dX7_livingAll_1 : decode cX7_livingAll 1 = .ok (.lstore_n 3, 1) := by decide +kernel
theorem dX7_livingAll_2 : decode cX7_livingAll 2 = .ok (.iconst 0, 1) := by decide +kernel
theorem dX7_livingAll_3 : decode cX7_livingAll 3 = .ok (.istore 5, 2) := by decide +kernel
theorem dX7_livingAll_5 : decode cX7_livingAll 5 = .ok (.iload 5, 2) := by decide +kernel
theorem dX7_livingAll_7 : decode cX7_livingAll 7 = .ok (.aload_n 0, 1) := by decide +kernel
theorem dX7_livingAll_8 : decode cX7_livingAll 8 = .ok (.getfield 7, 3) := by decide +kernel
theorem dX7_livingAll_11 : decode cX7_livingAll 11 = .ok (.iconst 0, 1) := by decide +kernel
theorem dX7_livingAll_12 : decode cX7_livingAll 12 = .ok (.iaload, 1) := by decide +kernel
theorem dX7_livingAll_13 : decode cX7_livingAll 13 = .ok (.if_icmp .ge 31, 3) := by decide +kernel
theorem dX7_livingAll_16 : decode cX7_livingAll 16 = .ok (.lload_n 3, 1) := by decide +kernel
theorem dX7_livingAll_17 : decode cX7_livingAll 17 = .ok (.aload_n 0, 1) := by decide +kernel
theorem dX7_livingAll_18 : decode cX7_livingAll 18 = .ok (.iload 5, 2) := by decide +kernel
theorem dX7_livingAll_20 : decode cX7_livingAll 20 = .ok (.iload_n 1, 1) := by decide +kernel
theorem dX7_livingAll_21 : decode cX7_livingAll 21 = .ok (.iload_n 2, 1) := by decide +kernel
theorem dX7_livingAll_22 : decode cX7_livingAll 22 = .ok (.invokevirtual 72, 3) := by decide +kernel
theorem dX7_livingAll_25 : decode cX7_livingAll 25 = .ok (.ifCond .eq 10, 3) := by decide +kernel
theorem dX7_livingAll_28 : decode cX7_livingAll 28 = .ok (.lconst 1, 1) := by decide +kernel
theorem dX7_livingAll_29 : decode cX7_livingAll 29 = .ok (.iload 5, 2) := by decide +kernel
theorem dX7_livingAll_31 : decode cX7_livingAll 31 = .ok (.lshl, 1) := by decide +kernel
theorem dX7_livingAll_32 : decode cX7_livingAll 32 = .ok (.goto 4, 3) := by decide +kernel
theorem dX7_livingAll_35 : decode cX7_livingAll 35 = .ok (.lconst 0, 1) := by decide +kernel
theorem dX7_livingAll_36 : decode cX7_livingAll 36 = .ok (.lor, 1) := by decide +kernel
theorem dX7_livingAll_37 : decode cX7_livingAll 37 = .ok (.lstore_n 3, 1) := by decide +kernel
theorem dX7_livingAll_38 : decode cX7_livingAll 38 = .ok (.iinc 5 1, 3) := by decide +kernel
theorem dX7_livingAll_41 : decode cX7_livingAll 41 = .ok (.goto (-36), 3) := by decide +kernel
theorem dX7_livingAll_44 : decode cX7_livingAll 44 = .ok (.lload_n 3, 1) := by decide +kernel
theorem dX7_livingAll_45 : decode cX7_livingAll 45 = .ok (.lreturn, 1) := by decide +kernel
theorem dX7_madeAt_0 : decode cX7_madeAt 0 = .ok (.iload_n 2, 1) := by decide +kernel
theorem dX7_madeAt_1 : decode cX7_madeAt 1 = .ok (.ifCond .ne 8, 3) := by decide +kernel
theorem dX7_madeAt_4 : decode cX7_madeAt 4 = .ok (.bipush 16, 2) := by decide +kernel
theorem dX7_madeAt_6 : decode cX7_madeAt 6 = .ok (.goto 15, 3) := by decide +kernel
theorem dX7_madeAt_9 : decode cX7_madeAt 9 = .ok (.aload_n 0, 1) := by decide +kernel
theorem dX7_madeAt_10 : decode cX7_madeAt 10 = .ok (.aload_n 0, 1) := by decide +kernel
theorem dX7_madeAt_11 : decode cX7_madeAt 11 = .ok (.iload_n 1, 1) := by decide +kernel
theorem dX7_madeAt_12 : decode cX7_madeAt 12 = .ok (.iload_n 2, 1) := by decide +kernel
theorem dX7_madeAt_13 : decode cX7_madeAt 13 = .ok (.iconst 1, 1) := by decide +kernel
theorem dX7_madeAt_14 : decode cX7_madeAt 14 = .ok (.isub, 1) := by decide +kernel
theorem dX7_madeAt_15 : decode cX7_madeAt 15 = .ok (.invokevirtual 75, 3) := by decide +kernel
theorem dX7_madeAt_18 : decode cX7_madeAt 18 = .ok (.invokevirtual 79, 3) := by decide +kernel
theorem dX7_madeAt_21 : decode cX7_madeAt 21 = .ok (.aload_n 0, 1) := by decide +kernel
theorem dX7_madeAt_22 : decode cX7_madeAt 22 = .ok (.aload_n 0, 1) := by decide +kernel
theorem dX7_madeAt_23 : decode cX7_madeAt 23 = .ok (.iload_n 1, 1) := by decide +kernel
theorem dX7_madeAt_24 : decode cX7_madeAt 24 = .ok (.iload_n 2, 1) := by decide +kernel
theorem dX7_madeAt_25 : decode cX7_madeAt 25 = .ok (.invokevirtual 75, 3) := by decide +kernel
theorem dX7_madeAt_28 : decode cX7_madeAt 28 = .ok (.invokevirtual 79, 3) := by decide +kernel
theorem dX7_madeAt_31 : decode cX7_madeAt 31 = .ok (.isub, 1) := by decide +kernel
theorem dX7_madeAt_32 : decode cX7_madeAt 32 = .ok (.ireturn, 1) := by decide +kernel
theorem dX7_spansOf_0 : decode cX7_spansOf 0 = .ok (.iconst 0, 1) := by decide +kernel
theorem dX7_spansOf_1 : decode cX7_spansOf 1 = .ok (.istore_n 2, 1) := by decide +kernel
theorem dX7_spansOf_2 : decode cX7_spansOf 2 = .ok (.iconst 0, 1) := by decide +kernel
theorem dX7_spansOf_3 : decode cX7_spansOf 3 = .ok (.istore_n 3, 1) := by decide +kernel
theorem dX7_spansOf_4 : decode cX7_spansOf 4 = .ok (.iload_n 3, 1) := by decide +kernel
theorem dX7_spansOf_5 : decode cX7_spansOf 5 = .ok (.bipush 6, 2) := by decide +kernel
theorem dX7_spansOf_7 : decode cX7_spansOf 7 = .ok (.if_icmp .gt 67, 3) := by decide +kernel
theorem dX7_spansOf_10 : decode cX7_spansOf 10 = .ok (.iconst 0, 1) := by decide +kernel
theorem dX7_spansOf_11 : decode cX7_spansOf 11 = .ok (.istore 4, 2) := by decide +kernel
theorem dX7_spansOf_13 : decode cX7_spansOf 13 = .ok (.iload 4, 2) := by decide +kernel
theorem dX7_spansOf_15 : decode cX7_spansOf 15 = .ok (.bipush 64, 2) := by decide +kernel
theorem dX7_spansOf_17 : decode cX7_spansOf 17 = .ok (.if_icmp .ge 51, 3) := by decide +kernel
theorem dX7_spansOf_20 : decode cX7_spansOf 20 = .ok (.iload_n 2, 1) := by decide +kernel
theorem dX7_spansOf_21 : decode cX7_spansOf 21 = .ok (.aload_n 0, 1) := by decide +kernel
theorem dX7_spansOf_22 : decode cX7_spansOf 22 = .ok (.iload_n 1, 1) := by decide +kernel
theorem dX7_spansOf_23 : decode cX7_spansOf 23 = .ok (.iload 4, 2) := by decide +kernel
theorem dX7_spansOf_25 : decode cX7_spansOf 25 = .ok (.iload_n 3, 1) := by decide +kernel
theorem dX7_spansOf_26 : decode cX7_spansOf 26 = .ok (.invokevirtual 72, 3) := by decide +kernel
theorem dX7_spansOf_29 : decode cX7_spansOf 29 = .ok (.ifCond .eq 24, 3) := by decide +kernel
theorem dX7_spansOf_32 : decode cX7_spansOf 32 = .ok (.iload_n 3, 1) := by decide +kernel
theorem dX7_spansOf_33 : decode cX7_spansOf 33 = .ok (.ifCond .eq 16, 3) := by decide +kernel
theorem dX7_spansOf_36 : decode cX7_spansOf 36 = .ok (.aload_n 0, 1) := by decide +kernel
theorem dX7_spansOf_37 : decode cX7_spansOf 37 = .ok (.iload_n 1, 1) := by decide +kernel
theorem dX7_spansOf_38 : decode cX7_spansOf 38 = .ok (.iload 4, 2) := by decide +kernel
theorem dX7_spansOf_40 : decode cX7_spansOf 40 = .ok (.iload_n 3, 1) := by decide +kernel
theorem dX7_spansOf_41 : decode cX7_spansOf 41 = .ok (.iconst 1, 1) := by decide +kernel
theorem dX7_spansOf_42 : decode cX7_spansOf 42 = .ok (.isub, 1) := by decide +kernel
theorem dX7_spansOf_43 : decode cX7_spansOf 43 = .ok (.invokevirtual 72, 3) := by decide +kernel
theorem dX7_spansOf_46 : decode cX7_spansOf 46 = .ok (.ifCond .ne 7, 3) := by decide +kernel
theorem dX7_spansOf_49 : decode cX7_spansOf 49 = .ok (.iconst 1, 1) := by decide +kernel
theorem dX7_spansOf_50 : decode cX7_spansOf 50 = .ok (.goto 4, 3) := by decide +kernel
theorem dX7_spansOf_53 : decode cX7_spansOf 53 = .ok (.iconst 0, 1) := by decide +kernel
theorem dX7_spansOf_54 : decode cX7_spansOf 54 = .ok (.iadd, 1) := by decide +kernel
theorem dX7_spansOf_55 : decode cX7_spansOf 55 = .ok (.istore_n 2, 1) := by decide +kernel
theorem dX7_spansOf_56 : decode cX7_spansOf 56 = .ok (.iload 4, 2) := by decide +kernel
theorem dX7_spansOf_58 : decode cX7_spansOf 58 = .ok (.iload_n 3, 1) := by decide +kernel
theorem dX7_spansOf_59 : decode cX7_spansOf 59 = .ok (.invokestatic 64, 3) := by decide +kernel
theorem dX7_spansOf_62 : decode cX7_spansOf 62 = .ok (.iadd, 1) := by decide +kernel
theorem dX7_spansOf_63 : decode cX7_spansOf 63 = .ok (.istore 4, 2) := by decide +kernel
theorem dX7_spansOf_65 : decode cX7_spansOf 65 = .ok (.goto (-52), 3) := by decide +kernel
theorem dX7_spansOf_68 : decode cX7_spansOf 68 = .ok (.iinc 3 1, 3) := by decide +kernel
theorem dX7_spansOf_71 : decode cX7_spansOf 71 = .ok (.goto (-67), 3) := by decide +kernel
theorem dX7_spansOf_74 : decode cX7_spansOf 74 = .ok (.iload_n 2, 1) := by decide +kernel
theorem dX7_spansOf_75 : decode cX7_spansOf 75 = .ok (.ireturn, 1) := by decide +kernel
theorem dX7_adds_0 : decode cX7_adds 0 = .ok (.aload_n 0, 1) := by decide +kernel
theorem dX7_adds_1 : decode cX7_adds 1 = .ok (.getfield 7, 3) := by decide +kernel
theorem dX7_adds_4 : decode cX7_adds 4 = .ok (.iconst 0, 1) := by decide +kernel
theorem dX7_adds_5 : decode cX7_adds 5 = .ok (.iaload, 1) := by decide +kernel
theorem dX7_adds_6 : decode cX7_adds 6 = .ok (.istore 5, 2) := by decide +kernel
theorem dX7_adds_8 : decode cX7_adds 8 = .ok (.aload_n 0, 1) := by decide +kernel
theorem dX7_adds_9 : decode cX7_adds 9 = .ok (.getfield 7, 3) := by decide +kernel
theorem dX7_adds_12 : decode cX7_adds 12 = .ok (.iconst 1, 1) := by decide +kernel
theorem dX7_adds_13 : decode cX7_adds 13 = .ok (.iload 5, 2) := by decide +kernel
theorem dX7_adds_15 : decode cX7_adds 15 = .ok (.iadd, 1) := by decide +kernel
theorem dX7_adds_16 : decode cX7_adds 16 = .ok (.iload_n 1, 1) := by decide +kernel
theorem dX7_adds_17 : decode cX7_adds 17 = .ok (.iastore, 1) := by decide +kernel
theorem dX7_adds_18 : decode cX7_adds 18 = .ok (.aload_n 0, 1) := by decide +kernel
theorem dX7_adds_19 : decode cX7_adds 19 = .ok (.getfield 7, 3) := by decide +kernel
theorem dX7_adds_22 : decode cX7_adds 22 = .ok (.bipush 41, 2) := by decide +kernel
theorem dX7_adds_24 : decode cX7_adds 24 = .ok (.iload 5, 2) := by decide +kernel
theorem dX7_adds_26 : decode cX7_adds 26 = .ok (.iadd, 1) := by decide +kernel
theorem dX7_adds_27 : decode cX7_adds 27 = .ok (.iload_n 2, 1) := by decide +kernel
theorem dX7_adds_28 : decode cX7_adds 28 = .ok (.iastore, 1) := by decide +kernel
theorem dX7_adds_29 : decode cX7_adds 29 = .ok (.aload_n 0, 1) := by decide +kernel
theorem dX7_adds_30 : decode cX7_adds 30 = .ok (.getfield 7, 3) := by decide +kernel
theorem dX7_adds_33 : decode cX7_adds 33 = .ok (.bipush 81, 2) := by decide +kernel
theorem dX7_adds_35 : decode cX7_adds 35 = .ok (.iload 5, 2) := by decide +kernel
theorem dX7_adds_37 : decode cX7_adds 37 = .ok (.iadd, 1) := by decide +kernel
theorem dX7_adds_38 : decode cX7_adds 38 = .ok (.iload_n 3, 1) := by decide +kernel
theorem dX7_adds_39 : decode cX7_adds 39 = .ok (.iastore, 1) := by decide +kernel
theorem dX7_adds_40 : decode cX7_adds 40 = .ok (.aload_n 0, 1) := by decide +kernel
theorem dX7_adds_41 : decode cX7_adds 41 = .ok (.getfield 7, 3) := by decide +kernel
theorem dX7_adds_44 : decode cX7_adds 44 = .ok (.bipush 121, 2) := by decide +kernel
theorem dX7_adds_46 : decode cX7_adds 46 = .ok (.iload 5, 2) := by decide +kernel
theorem dX7_adds_48 : decode cX7_adds 48 = .ok (.iadd, 1) := by decide +kernel
theorem dX7_adds_49 : decode cX7_adds 49 = .ok (.iload 4, 2) := by decide +kernel
theorem dX7_adds_51 : decode cX7_adds 51 = .ok (.iastore, 1) := by decide +kernel
theorem dX7_adds_52 : decode cX7_adds 52 = .ok (.aload_n 0, 1) := by decide +kernel
theorem dX7_adds_53 : decode cX7_adds 53 = .ok (.getfield 7, 3) := by decide +kernel
theorem dX7_adds_56 : decode cX7_adds 56 = .ok (.iconst 0, 1) := by decide +kernel
theorem dX7_adds_57 : decode cX7_adds 57 = .ok (.dup2, 1) := by decide +kernel
theorem dX7_adds_58 : decode cX7_adds 58 = .ok (.iaload, 1) := by decide +kernel
theorem dX7_adds_59 : decode cX7_adds 59 = .ok (.iconst 1, 1) := by decide +kernel
theorem dX7_adds_60 : decode cX7_adds 60 = .ok (.iadd, 1) := by decide +kernel
theorem dX7_adds_61 : decode cX7_adds 61 = .ok (.iastore, 1) := by decide +kernel
theorem dX7_adds_62 : decode cX7_adds 62 = .ok (.return_, 1) := by decide +kernel
theorem dX7_addLink_0 : decode cX7_addLink 0 = .ok (.iload_n 1, 1) := by decide +kernel
theorem dX7_addLink_1 : decode cX7_addLink 1 = .ok (.invokestatic 83, 3) := by decide +kernel
theorem dX7_addLink_4 : decode cX7_addLink 4 = .ok (.ifCond .eq 10, 3) := by decide +kernel
theorem dX7_addLink_7 : decode cX7_addLink 7 = .ok (.iload_n 2, 1) := by decide +kernel
theorem dX7_addLink_8 : decode cX7_addLink 8 = .ok (.invokestatic 83, 3) := by decide +kernel
theorem dX7_addLink_11 : decode cX7_addLink 11 = .ok (.ifCond .ne 5, 3) := by decide +kernel
theorem dX7_addLink_14 : decode cX7_addLink 14 = .ok (.iconst (-1), 1) := by decide +kernel
theorem dX7_addLink_15 : decode cX7_addLink 15 = .ok (.ireturn, 1) := by decide +kernel
theorem dX7_addLink_16 : decode cX7_addLink 16 = .ok (.iload_n 3, 1) := by decide +kernel
theorem dX7_addLink_17 : decode cX7_addLink 17 = .ok (.iload 4, 2) := by decide +kernel
theorem dX7_addLink_19 : decode cX7_addLink 19 = .ok (.invokestatic 86, 3) := by decide +kernel
theorem dX7_addLink_22 : decode cX7_addLink 22 = .ok (.ifCond .eq 8, 3) := by decide +kernel
theorem dX7_addLink_25 : decode cX7_addLink 25 = .ok (.iload_n 1, 1) := by decide +kernel
theorem dX7_addLink_26 : decode cX7_addLink 26 = .ok (.iload_n 2, 1) := by decide +kernel
theorem dX7_addLink_27 : decode cX7_addLink 27 = .ok (.if_icmp .ne 6, 3) := by decide +kernel
theorem dX7_addLink_30 : decode cX7_addLink 30 = .ok (.bipush (-2), 2) := by decide +kernel
theorem dX7_addLink_32 : decode cX7_addLink 32 = .ok (.ireturn, 1) := by decide +kernel
theorem dX7_addLink_33 : decode cX7_addLink 33 = .ok (.aload_n 0, 1) := by decide +kernel
theorem dX7_addLink_34 : decode cX7_addLink 34 = .ok (.getfield 7, 3) := by decide +kernel
theorem dX7_addLink_37 : decode cX7_addLink 37 = .ok (.iconst 0, 1) := by decide +kernel
theorem dX7_addLink_38 : decode cX7_addLink 38 = .ok (.iaload, 1) := by decide +kernel
theorem dX7_addLink_39 : decode cX7_addLink 39 = .ok (.bipush 40, 2) := by decide +kernel
theorem dX7_addLink_41 : decode cX7_addLink 41 = .ok (.if_icmp .ne 6, 3) := by decide +kernel
theorem dX7_addLink_44 : decode cX7_addLink 44 = .ok (.bipush (-3), 2) := by decide +kernel
theorem dX7_addLink_46 : decode cX7_addLink 46 = .ok (.ireturn, 1) := by decide +kernel
theorem dX7_addLink_47 : decode cX7_addLink 47 = .ok (.aload_n 0, 1) := by decide +kernel
theorem dX7_addLink_48 : decode cX7_addLink 48 = .ok (.invokevirtual 89, 3) := by decide +kernel
theorem dX7_addLink_51 : decode cX7_addLink 51 = .ok (.aload_n 0, 1) := by decide +kernel
theorem dX7_addLink_52 : decode cX7_addLink 52 = .ok (.iload_n 1, 1) := by decide +kernel
theorem dX7_addLink_53 : decode cX7_addLink 53 = .ok (.iload_n 2, 1) := by decide +kernel
theorem dX7_addLink_54 : decode cX7_addLink 54 = .ok (.iload_n 3, 1) := by decide +kernel
theorem dX7_addLink_55 : decode cX7_addLink 55 = .ok (.iload 4, 2) := by decide +kernel
theorem dX7_addLink_57 : decode cX7_addLink 57 = .ok (.invokevirtual 92, 3) := by decide +kernel
theorem dX7_addLink_60 : decode cX7_addLink 60 = .ok (.aload_n 0, 1) := by decide +kernel
theorem dX7_addLink_61 : decode cX7_addLink 61 = .ok (.aload_n 0, 1) := by decide +kernel
theorem dX7_addLink_62 : decode cX7_addLink 62 = .ok (.getfield 7, 3) := by decide +kernel
theorem dX7_addLink_65 : decode cX7_addLink 65 = .ok (.iconst 0, 1) := by decide +kernel
theorem dX7_addLink_66 : decode cX7_addLink 66 = .ok (.iaload, 1) := by decide +kernel
theorem dX7_addLink_67 : decode cX7_addLink 67 = .ok (.iconst 1, 1) := by decide +kernel
theorem dX7_addLink_68 : decode cX7_addLink 68 = .ok (.isub, 1) := by decide +kernel
theorem dX7_addLink_69 : decode cX7_addLink 69 = .ok (.invokevirtual 96, 3) := by decide +kernel
theorem dX7_addLink_72 : decode cX7_addLink 72 = .ok (.ireturn, 1) := by decide +kernel
theorem dX7_takesOut_0 : decode cX7_takesOut 0 = .ok (.aload_n 0, 1) := by decide +kernel
theorem dX7_takesOut_1 : decode cX7_takesOut 1 = .ok (.getfield 7, 3) := by decide +kernel
theorem dX7_takesOut_4 : decode cX7_takesOut 4 = .ok (.iconst 0, 1) := by decide +kernel
theorem dX7_takesOut_5 : decode cX7_takesOut 5 = .ok (.dup2, 1) := by decide +kernel
theorem dX7_takesOut_6 : decode cX7_takesOut 6 = .ok (.iaload, 1) := by decide +kernel
theorem dX7_takesOut_7 : decode cX7_takesOut 7 = .ok (.iconst 1, 1) := by decide +kernel
theorem dX7_takesOut_8 : decode cX7_takesOut 8 = .ok (.isub, 1) := by decide +kernel
theorem dX7_takesOut_9 : decode cX7_takesOut 9 = .ok (.iastore, 1) := by decide +kernel
theorem dX7_takesOut_10 : decode cX7_takesOut 10 = .ok (.iload_n 1, 1) := by decide +kernel
theorem dX7_takesOut_11 : decode cX7_takesOut 11 = .ok (.istore_n 2, 1) := by decide +kernel
theorem dX7_takesOut_12 : decode cX7_takesOut 12 = .ok (.iload_n 2, 1) := by decide +kernel
theorem dX7_takesOut_13 : decode cX7_takesOut 13 = .ok (.aload_n 0, 1) := by decide +kernel
theorem dX7_takesOut_14 : decode cX7_takesOut 14 = .ok (.getfield 7, 3) := by decide +kernel
theorem dX7_takesOut_17 : decode cX7_takesOut 17 = .ok (.iconst 0, 1) := by decide +kernel
theorem dX7_takesOut_18 : decode cX7_takesOut 18 = .ok (.iaload, 1) := by decide +kernel
theorem dX7_takesOut_19 : decode cX7_takesOut 19 = .ok (.if_icmp .ge 41, 3) := by decide +kernel
theorem dX7_takesOut_22 : decode cX7_takesOut 22 = .ok (.iconst 1, 1) := by decide +kernel
theorem dX7_takesOut_23 : decode cX7_takesOut 23 = .ok (.istore_n 3, 1) := by decide +kernel
theorem dX7_takesOut_24 : decode cX7_takesOut 24 = .ok (.iload_n 3, 1) := by decide +kernel
theorem dX7_takesOut_25 : decode cX7_takesOut 25 = .ok (.bipush 121, 2) := by decide +kernel
theorem dX7_takesOut_27 : decode cX7_takesOut 27 = .ok (.if_icmp .gt 27, 3) := by decide +kernel
theorem dX7_takesOut_30 : decode cX7_takesOut 30 = .ok (.aload_n 0, 1) := by decide +kernel
theorem dX7_takesOut_31 : decode cX7_takesOut 31 = .ok (.getfield 7, 3) := by decide +kernel
theorem dX7_takesOut_34 : decode cX7_takesOut 34 = .ok (.iload_n 3, 1) := by decide +kernel
theorem dX7_takesOut_35 : decode cX7_takesOut 35 = .ok (.iload_n 2, 1) := by decide +kernel
theorem dX7_takesOut_36 : decode cX7_takesOut 36 = .ok (.iadd, 1) := by decide +kernel
theorem dX7_takesOut_37 : decode cX7_takesOut 37 = .ok (.aload_n 0, 1) := by decide +kernel
theorem dX7_takesOut_38 : decode cX7_takesOut 38 = .ok (.getfield 7, 3) := by decide +kernel
theorem dX7_takesOut_41 : decode cX7_takesOut 41 = .ok (.iload_n 3, 1) := by decide +kernel
theorem dX7_takesOut_42 : decode cX7_takesOut 42 = .ok (.iload_n 2, 1) := by decide +kernel
theorem dX7_takesOut_43 : decode cX7_takesOut 43 = .ok (.iadd, 1) := by decide +kernel
theorem dX7_takesOut_44 : decode cX7_takesOut 44 = .ok (.iconst 1, 1) := by decide +kernel
theorem dX7_takesOut_45 : decode cX7_takesOut 45 = .ok (.iadd, 1) := by decide +kernel
theorem dX7_takesOut_46 : decode cX7_takesOut 46 = .ok (.iaload, 1) := by decide +kernel
theorem dX7_takesOut_47 : decode cX7_takesOut 47 = .ok (.iastore, 1) := by decide +kernel
theorem dX7_takesOut_48 : decode cX7_takesOut 48 = .ok (.iinc 3 40, 3) := by decide +kernel
theorem dX7_takesOut_51 : decode cX7_takesOut 51 = .ok (.goto (-27), 3) := by decide +kernel
theorem dX7_takesOut_54 : decode cX7_takesOut 54 = .ok (.iinc 2 1, 3) := by decide +kernel
theorem dX7_takesOut_57 : decode cX7_takesOut 57 = .ok (.goto (-45), 3) := by decide +kernel
theorem dX7_takesOut_60 : decode cX7_takesOut 60 = .ok (.return_, 1) := by decide +kernel
theorem dX7_removeLink_0 : decode cX7_removeLink 0 = .ok (.aload_n 0, 1) := by decide +kernel
theorem dX7_removeLink_1 : decode cX7_removeLink 1 = .ok (.iload_n 1, 1) := by decide +kernel
theorem dX7_removeLink_2 : decode cX7_removeLink 2 = .ok (.invokevirtual 99, 3) := by decide +kernel
theorem dX7_removeLink_5 : decode cX7_removeLink 5 = .ok (.ifCond .ne 5, 3) := by decide +kernel
theorem dX7_removeLink_8 : decode cX7_removeLink 8 = .ok (.iconst (-1), 1) := by decide +kernel
theorem dX7_removeLink_9 : decode cX7_removeLink 9 = .ok (.ireturn, 1) := by decide +kernel
theorem dX7_removeLink_10 : decode cX7_removeLink 10 = .ok (.aload_n 0, 1) := by decide +kernel
theorem dX7_removeLink_11 : decode cX7_removeLink 11 = .ok (.invokevirtual 89, 3) := by decide +kernel
theorem dX7_removeLink_14 : decode cX7_removeLink 14 = .ok (.aload_n 0, 1) := by decide +kernel
theorem dX7_removeLink_15 : decode cX7_removeLink 15 = .ok (.iload_n 1, 1) := by decide +kernel
theorem dX7_removeLink_16 : decode cX7_removeLink 16 = .ok (.invokevirtual 102, 3) := by decide +kernel
theorem dX7_removeLink_19 : decode cX7_removeLink 19 = .ok (.aload_n 0, 1) := by decide +kernel
theorem dX7_removeLink_20 : decode cX7_removeLink 20 = .ok (.aload_n 0, 1) := by decide +kernel
theorem dX7_removeLink_21 : decode cX7_removeLink 21 = .ok (.getfield 7, 3) := by decide +kernel
theorem dX7_removeLink_24 : decode cX7_removeLink 24 = .ok (.iconst 0, 1) := by decide +kernel
theorem dX7_removeLink_25 : decode cX7_removeLink 25 = .ok (.iaload, 1) := by decide +kernel
theorem dX7_removeLink_26 : decode cX7_removeLink 26 = .ok (.invokevirtual 96, 3) := by decide +kernel
theorem dX7_removeLink_29 : decode cX7_removeLink 29 = .ok (.ireturn, 1) := by decide +kernel
theorem dX7_setLife_0 : decode cX7_setLife 0 = .ok (.aload_n 0, 1) := by decide +kernel
theorem dX7_setLife_1 : decode cX7_setLife 1 = .ok (.iload_n 1, 1) := by decide +kernel
theorem dX7_setLife_2 : decode cX7_setLife 2 = .ok (.invokevirtual 99, 3) := by decide +kernel
theorem dX7_setLife_5 : decode cX7_setLife 5 = .ok (.ifCond .ne 5, 3) := by decide +kernel
theorem dX7_setLife_8 : decode cX7_setLife 8 = .ok (.iconst (-1), 1) := by decide +kernel
theorem dX7_setLife_9 : decode cX7_setLife 9 = .ok (.ireturn, 1) := by decide +kernel
theorem dX7_setLife_10 : decode cX7_setLife 10 = .ok (.iload_n 2, 1) := by decide +kernel
theorem dX7_setLife_11 : decode cX7_setLife 11 = .ok (.iload_n 3, 1) := by decide +kernel
theorem dX7_setLife_12 : decode cX7_setLife 12 = .ok (.invokestatic 86, 3) := by decide +kernel
theorem dX7_setLife_15 : decode cX7_setLife 15 = .ok (.ifCond .ne 6, 3) := by decide +kernel
theorem dX7_setLife_18 : decode cX7_setLife 18 = .ok (.bipush (-2), 2) := by decide +kernel
theorem dX7_setLife_20 : decode cX7_setLife 20 = .ok (.ireturn, 1) := by decide +kernel
theorem dX7_setLife_21 : decode cX7_setLife 21 = .ok (.aload_n 0, 1) := by decide +kernel
theorem dX7_setLife_22 : decode cX7_setLife 22 = .ok (.getfield 7, 3) := by decide +kernel
theorem dX7_setLife_25 : decode cX7_setLife 25 = .ok (.bipush 81, 2) := by decide +kernel
theorem dX7_setLife_27 : decode cX7_setLife 27 = .ok (.iload_n 1, 1) := by decide +kernel
theorem dX7_setLife_28 : decode cX7_setLife 28 = .ok (.iadd, 1) := by decide +kernel
theorem dX7_setLife_29 : decode cX7_setLife 29 = .ok (.iaload, 1) := by decide +kernel
theorem dX7_setLife_30 : decode cX7_setLife 30 = .ok (.iload_n 2, 1) := by decide +kernel
theorem dX7_setLife_31 : decode cX7_setLife 31 = .ok (.if_icmp .ne 19, 3) := by decide +kernel
theorem dX7_setLife_34 : decode cX7_setLife 34 = .ok (.aload_n 0, 1) := by decide +kernel
theorem dX7_setLife_35 : decode cX7_setLife 35 = .ok (.getfield 7, 3) := by decide +kernel
theorem dX7_setLife_38 : decode cX7_setLife 38 = .ok (.bipush 121, 2) := by decide +kernel
theorem dX7_setLife_40 : decode cX7_setLife 40 = .ok (.iload_n 1, 1) := by decide +kernel
theorem dX7_setLife_41 : decode cX7_setLife 41 = .ok (.iadd, 1) := by decide +kernel
theorem dX7_setLife_42 : decode cX7_setLife 42 = .ok (.iaload, 1) := by decide +kernel
theorem dX7_setLife_43 : decode cX7_setLife 43 = .ok (.iload_n 3, 1) := by decide +kernel
theorem dX7_setLife_44 : decode cX7_setLife 44 = .ok (.if_icmp .ne 6, 3) := by decide +kernel
theorem dX7_setLife_47 : decode cX7_setLife 47 = .ok (.bipush (-5), 2) := by decide +kernel
theorem dX7_setLife_49 : decode cX7_setLife 49 = .ok (.ireturn, 1) := by decide +kernel
theorem dX7_setLife_50 : decode cX7_setLife 50 = .ok (.aload_n 0, 1) := by decide +kernel
theorem dX7_setLife_51 : decode cX7_setLife 51 = .ok (.invokevirtual 89, 3) := by decide +kernel
theorem dX7_setLife_54 : decode cX7_setLife 54 = .ok (.aload_n 0, 1) := by decide +kernel
theorem dX7_setLife_55 : decode cX7_setLife 55 = .ok (.getfield 7, 3) := by decide +kernel
theorem dX7_setLife_58 : decode cX7_setLife 58 = .ok (.bipush 81, 2) := by decide +kernel
theorem dX7_setLife_60 : decode cX7_setLife 60 = .ok (.iload_n 1, 1) := by decide +kernel
theorem dX7_setLife_61 : decode cX7_setLife 61 = .ok (.iadd, 1) := by decide +kernel
theorem dX7_setLife_62 : decode cX7_setLife 62 = .ok (.iload_n 2, 1) := by decide +kernel
theorem dX7_setLife_63 : decode cX7_setLife 63 = .ok (.iastore, 1) := by decide +kernel
theorem dX7_setLife_64 : decode cX7_setLife 64 = .ok (.aload_n 0, 1) := by decide +kernel
theorem dX7_setLife_65 : decode cX7_setLife 65 = .ok (.getfield 7, 3) := by decide +kernel
theorem dX7_setLife_68 : decode cX7_setLife 68 = .ok (.bipush 121, 2) := by decide +kernel
theorem dX7_setLife_70 : decode cX7_setLife 70 = .ok (.iload_n 1, 1) := by decide +kernel
theorem dX7_setLife_71 : decode cX7_setLife 71 = .ok (.iadd, 1) := by decide +kernel
theorem dX7_setLife_72 : decode cX7_setLife 72 = .ok (.iload_n 3, 1) := by decide +kernel
theorem dX7_setLife_73 : decode cX7_setLife 73 = .ok (.iastore, 1) := by decide +kernel
theorem dX7_setLife_74 : decode cX7_setLife 74 = .ok (.aload_n 0, 1) := by decide +kernel
theorem dX7_setLife_75 : decode cX7_setLife 75 = .ok (.iload_n 3, 1) := by decide +kernel
theorem dX7_setLife_76 : decode cX7_setLife 76 = .ok (.iload_n 2, 1) := by decide +kernel
theorem dX7_setLife_77 : decode cX7_setLife 77 = .ok (.isub, 1) := by decide +kernel
theorem dX7_setLife_78 : decode cX7_setLife 78 = .ok (.invokevirtual 96, 3) := by decide +kernel
theorem dX7_setLife_81 : decode cX7_setLife 81 = .ok (.ireturn, 1) := by decide +kernel
theorem dX7_cut_0 : decode cX7_cut 0 = .ok (.aload_n 0, 1) := by decide +kernel
theorem dX7_cut_1 : decode cX7_cut 1 = .ok (.iload_n 1, 1) := by decide +kernel
theorem dX7_cut_2 : decode cX7_cut 2 = .ok (.invokevirtual 99, 3) := by decide +kernel
theorem dX7_cut_5 : decode cX7_cut 5 = .ok (.ifCond .ne 5, 3) := by decide +kernel
theorem dX7_cut_8 : decode cX7_cut 8 = .ok (.iconst (-1), 1) := by decide +kernel
theorem dX7_cut_9 : decode cX7_cut 9 = .ok (.ireturn, 1) := by decide +kernel
theorem dX7_cut_10 : decode cX7_cut 10 = .ok (.iload_n 2, 1) := by decide +kernel
theorem dX7_cut_11 : decode cX7_cut 11 = .ok (.invokestatic 40, 3) := by decide +kernel
theorem dX7_cut_14 : decode cX7_cut 14 = .ok (.ifCond .ne 6, 3) := by decide +kernel
theorem dX7_cut_17 : decode cX7_cut 17 = .ok (.bipush (-2), 2) := by decide +kernel
theorem dX7_cut_19 : decode cX7_cut 19 = .ok (.ireturn, 1) := by decide +kernel
theorem dX7_cut_20 : decode cX7_cut 20 = .ok (.aload_n 0, 1) := by decide +kernel
theorem dX7_cut_21 : decode cX7_cut 21 = .ok (.iload_n 1, 1) := by decide +kernel
theorem dX7_cut_22 : decode cX7_cut 22 = .ok (.iload_n 2, 1) := by decide +kernel
theorem dX7_cut_23 : decode cX7_cut 23 = .ok (.invokevirtual 50, 3) := by decide +kernel
theorem dX7_cut_26 : decode cX7_cut 26 = .ok (.ifCond .eq 14, 3) := by decide +kernel
theorem dX7_cut_29 : decode cX7_cut 29 = .ok (.aload_n 0, 1) := by decide +kernel
theorem dX7_cut_30 : decode cX7_cut 30 = .ok (.iload_n 1, 1) := by decide +kernel
theorem dX7_cut_31 : decode cX7_cut 31 = .ok (.iload_n 2, 1) := by decide +kernel
theorem dX7_cut_32 : decode cX7_cut 32 = .ok (.iconst 1, 1) := by decide +kernel
theorem dX7_cut_33 : decode cX7_cut 33 = .ok (.isub, 1) := by decide +kernel
theorem dX7_cut_34 : decode cX7_cut 34 = .ok (.invokevirtual 50, 3) := by decide +kernel
theorem dX7_cut_37 : decode cX7_cut 37 = .ok (.ifCond .ne 6, 3) := by decide +kernel
theorem dX7_cut_40 : decode cX7_cut 40 = .ok (.bipush (-4), 2) := by decide +kernel
theorem dX7_cut_42 : decode cX7_cut 42 = .ok (.ireturn, 1) := by decide +kernel
theorem dX7_cut_43 : decode cX7_cut 43 = .ok (.aload_n 0, 1) := by decide +kernel
theorem dX7_cut_44 : decode cX7_cut 44 = .ok (.getfield 7, 3) := by decide +kernel
theorem dX7_cut_47 : decode cX7_cut 47 = .ok (.iconst 0, 1) := by decide +kernel
theorem dX7_cut_48 : decode cX7_cut 48 = .ok (.iaload, 1) := by decide +kernel
theorem dX7_cut_49 : decode cX7_cut 49 = .ok (.bipush 40, 2) := by decide +kernel
theorem dX7_cut_51 : decode cX7_cut 51 = .ok (.if_icmp .ne 6, 3) := by decide +kernel
theorem dX7_cut_54 : decode cX7_cut 54 = .ok (.bipush (-3), 2) := by decide +kernel
theorem dX7_cut_56 : decode cX7_cut 56 = .ok (.ireturn, 1) := by decide +kernel
theorem dX7_cut_57 : decode cX7_cut 57 = .ok (.aload_n 0, 1) := by decide +kernel
theorem dX7_cut_58 : decode cX7_cut 58 = .ok (.invokevirtual 89, 3) := by decide +kernel
theorem dX7_cut_61 : decode cX7_cut 61 = .ok (.aload_n 0, 1) := by decide +kernel
theorem dX7_cut_62 : decode cX7_cut 62 = .ok (.aload_n 0, 1) := by decide +kernel
theorem dX7_cut_63 : decode cX7_cut 63 = .ok (.getfield 7, 3) := by decide +kernel
theorem dX7_cut_66 : decode cX7_cut 66 = .ok (.iconst 1, 1) := by decide +kernel
theorem dX7_cut_67 : decode cX7_cut 67 = .ok (.iload_n 1, 1) := by decide +kernel
theorem dX7_cut_68 : decode cX7_cut 68 = .ok (.iadd, 1) := by decide +kernel
theorem dX7_cut_69 : decode cX7_cut 69 = .ok (.iaload, 1) := by decide +kernel
theorem dX7_cut_70 : decode cX7_cut 70 = .ok (.aload_n 0, 1) := by decide +kernel
theorem dX7_cut_71 : decode cX7_cut 71 = .ok (.getfield 7, 3) := by decide +kernel
theorem dX7_cut_74 : decode cX7_cut 74 = .ok (.bipush 41, 2) := by decide +kernel
theorem dX7_cut_76 : decode cX7_cut 76 = .ok (.iload_n 1, 1) := by decide +kernel
theorem dX7_cut_77 : decode cX7_cut 77 = .ok (.iadd, 1) := by decide +kernel
theorem dX7_cut_78 : decode cX7_cut 78 = .ok (.iaload, 1) := by decide +kernel
theorem dX7_cut_79 : decode cX7_cut 79 = .ok (.iload_n 2, 1) := by decide +kernel
theorem dX7_cut_80 : decode cX7_cut 80 = .ok (.aload_n 0, 1) := by decide +kernel
theorem dX7_cut_81 : decode cX7_cut 81 = .ok (.getfield 7, 3) := by decide +kernel
theorem dX7_cut_84 : decode cX7_cut 84 = .ok (.bipush 121, 2) := by decide +kernel
theorem dX7_cut_86 : decode cX7_cut 86 = .ok (.iload_n 1, 1) := by decide +kernel
theorem dX7_cut_87 : decode cX7_cut 87 = .ok (.iadd, 1) := by decide +kernel
theorem dX7_cut_88 : decode cX7_cut 88 = .ok (.iaload, 1) := by decide +kernel
theorem dX7_cut_89 : decode cX7_cut 89 = .ok (.invokevirtual 92, 3) := by decide +kernel
theorem dX7_cut_92 : decode cX7_cut 92 = .ok (.aload_n 0, 1) := by decide +kernel
theorem dX7_cut_93 : decode cX7_cut 93 = .ok (.getfield 7, 3) := by decide +kernel
theorem dX7_cut_96 : decode cX7_cut 96 = .ok (.bipush 121, 2) := by decide +kernel
theorem dX7_cut_98 : decode cX7_cut 98 = .ok (.iload_n 1, 1) := by decide +kernel
theorem dX7_cut_99 : decode cX7_cut 99 = .ok (.iadd, 1) := by decide +kernel
theorem dX7_cut_100 : decode cX7_cut 100 = .ok (.iload_n 2, 1) := by decide +kernel
theorem dX7_cut_101 : decode cX7_cut 101 = .ok (.iastore, 1) := by decide +kernel
theorem dX7_cut_102 : decode cX7_cut 102 = .ok (.aload_n 0, 1) := by decide +kernel
theorem dX7_cut_103 : decode cX7_cut 103 = .ok (.aload_n 0, 1) := by decide +kernel
theorem dX7_cut_104 : decode cX7_cut 104 = .ok (.getfield 7, 3) := by decide +kernel
theorem dX7_cut_107 : decode cX7_cut 107 = .ok (.iconst 0, 1) := by decide +kernel
theorem dX7_cut_108 : decode cX7_cut 108 = .ok (.iaload, 1) := by decide +kernel
theorem dX7_cut_109 : decode cX7_cut 109 = .ok (.iconst 1, 1) := by decide +kernel
theorem dX7_cut_110 : decode cX7_cut 110 = .ok (.isub, 1) := by decide +kernel
theorem dX7_cut_111 : decode cX7_cut 111 = .ok (.invokevirtual 96, 3) := by decide +kernel
theorem dX7_cut_114 : decode cX7_cut 114 = .ok (.ireturn, 1) := by decide +kernel
theorem dX7_clear_0 : decode cX7_clear 0 = .ok (.iload_n 1, 1) := by decide +kernel
theorem dX7_clear_1 : decode cX7_clear 1 = .ok (.invokestatic 40, 3) := by decide +kernel
theorem dX7_clear_4 : decode cX7_clear 4 = .ok (.ifCond .ne 5, 3) := by decide +kernel
theorem dX7_clear_7 : decode cX7_clear 7 = .ok (.iconst (-1), 1) := by decide +kernel
theorem dX7_clear_8 : decode cX7_clear 8 = .ok (.ireturn, 1) := by decide +kernel
theorem dX7_clear_9 : decode cX7_clear 9 = .ok (.aload_n 0, 1) := by decide +kernel
theorem dX7_clear_10 : decode cX7_clear 10 = .ok (.iload_n 1, 1) := by decide +kernel
theorem dX7_clear_11 : decode cX7_clear 11 = .ok (.invokevirtual 106, 3) := by decide +kernel
theorem dX7_clear_14 : decode cX7_clear 14 = .ok (.invokestatic 110, 3) := by decide +kernel
theorem dX7_clear_17 : decode cX7_clear 17 = .ok (.istore_n 2, 1) := by decide +kernel
theorem dX7_clear_18 : decode cX7_clear 18 = .ok (.iload_n 2, 1) := by decide +kernel
theorem dX7_clear_19 : decode cX7_clear 19 = .ok (.ifCond .ne 6, 3) := by decide +kernel
theorem dX7_clear_22 : decode cX7_clear 22 = .ok (.bipush (-5), 2) := by decide +kernel
theorem dX7_clear_24 : decode cX7_clear 24 = .ok (.ireturn, 1) := by decide +kernel
theorem dX7_clear_25 : decode cX7_clear 25 = .ok (.aload_n 0, 1) := by decide +kernel
theorem dX7_clear_26 : decode cX7_clear 26 = .ok (.invokevirtual 89, 3) := by decide +kernel
theorem dX7_clear_29 : decode cX7_clear 29 = .ok (.aload_n 0, 1) := by decide +kernel
theorem dX7_clear_30 : decode cX7_clear 30 = .ok (.getfield 7, 3) := by decide +kernel
theorem dX7_clear_33 : decode cX7_clear 33 = .ok (.iconst 0, 1) := by decide +kernel
theorem dX7_clear_34 : decode cX7_clear 34 = .ok (.iaload, 1) := by decide +kernel
theorem dX7_clear_35 : decode cX7_clear 35 = .ok (.iconst 1, 1) := by decide +kernel
theorem dX7_clear_36 : decode cX7_clear 36 = .ok (.isub, 1) := by decide +kernel
theorem dX7_clear_37 : decode cX7_clear 37 = .ok (.istore_n 3, 1) := by decide +kernel
theorem dX7_clear_38 : decode cX7_clear 38 = .ok (.iload_n 3, 1) := by decide +kernel
theorem dX7_clear_39 : decode cX7_clear 39 = .ok (.ifCond .lt 23, 3) := by decide +kernel
theorem dX7_clear_42 : decode cX7_clear 42 = .ok (.aload_n 0, 1) := by decide +kernel
theorem dX7_clear_43 : decode cX7_clear 43 = .ok (.iload_n 3, 1) := by decide +kernel
theorem dX7_clear_44 : decode cX7_clear 44 = .ok (.iload_n 1, 1) := by decide +kernel
theorem dX7_clear_45 : decode cX7_clear 45 = .ok (.invokevirtual 50, 3) := by decide +kernel
theorem dX7_clear_48 : decode cX7_clear 48 = .ok (.ifCond .eq 8, 3) := by decide +kernel
theorem dX7_clear_51 : decode cX7_clear 51 = .ok (.aload_n 0, 1) := by decide +kernel
theorem dX7_clear_52 : decode cX7_clear 52 = .ok (.iload_n 3, 1) := by decide +kernel
theorem dX7_clear_53 : decode cX7_clear 53 = .ok (.invokevirtual 102, 3) := by decide +kernel
theorem dX7_clear_56 : decode cX7_clear 56 = .ok (.iinc 3 (-1), 3) := by decide +kernel
theorem dX7_clear_59 : decode cX7_clear 59 = .ok (.goto (-21), 3) := by decide +kernel
theorem dX7_clear_62 : decode cX7_clear 62 = .ok (.aload_n 0, 1) := by decide +kernel
theorem dX7_clear_63 : decode cX7_clear 63 = .ok (.iload_n 2, 1) := by decide +kernel
theorem dX7_clear_64 : decode cX7_clear 64 = .ok (.invokevirtual 96, 3) := by decide +kernel
theorem dX7_clear_67 : decode cX7_clear 67 = .ok (.ireturn, 1) := by decide +kernel
theorem dX7_type_0 : decode cX7_type 0 = .ok (.aload_n 0, 1) := by decide +kernel
theorem dX7_type_1 : decode cX7_type 1 = .ok (.getfield 113, 3) := by decide +kernel
theorem dX7_type_4 : decode cX7_type 4 = .ok (.bipush 60, 2) := by decide +kernel
theorem dX7_type_6 : decode cX7_type 6 = .ok (.if_icmp .ne 6, 3) := by decide +kernel
theorem dX7_type_9 : decode cX7_type 9 = .ok (.bipush (-3), 2) := by decide +kernel
theorem dX7_type_11 : decode cX7_type 11 = .ok (.ireturn, 1) := by decide +kernel
theorem dX7_type_12 : decode cX7_type 12 = .ok (.aload_n 0, 1) := by decide +kernel
theorem dX7_type_13 : decode cX7_type 13 = .ok (.getfield 22, 3) := by decide +kernel
theorem dX7_type_16 : decode cX7_type 16 = .ok (.aload_n 0, 1) := by decide +kernel
theorem dX7_type_17 : decode cX7_type 17 = .ok (.getfield 113, 3) := by decide +kernel
theorem dX7_type_20 : decode cX7_type 20 = .ok (.iload_n 1, 1) := by decide +kernel
theorem dX7_type_21 : decode cX7_type 21 = .ok (.iastore, 1) := by decide +kernel
theorem dX7_type_22 : decode cX7_type 22 = .ok (.aload_n 0, 1) := by decide +kernel
theorem dX7_type_23 : decode cX7_type 23 = .ok (.dup, 1) := by decide +kernel
theorem dX7_type_24 : decode cX7_type 24 = .ok (.getfield 113, 3) := by decide +kernel
theorem dX7_type_27 : decode cX7_type 27 = .ok (.iconst 1, 1) := by decide +kernel
theorem dX7_type_28 : decode cX7_type 28 = .ok (.iadd, 1) := by decide +kernel
theorem dX7_type_29 : decode cX7_type 29 = .ok (.putfield 113, 3) := by decide +kernel
theorem dX7_type_32 : decode cX7_type 32 = .ok (.aload_n 0, 1) := by decide +kernel
theorem dX7_type_33 : decode cX7_type 33 = .ok (.getfield 113, 3) := by decide +kernel
theorem dX7_type_36 : decode cX7_type 36 = .ok (.ireturn, 1) := by decide +kernel
theorem dX7_clearText_0 : decode cX7_clearText 0 = .ok (.aload_n 0, 1) := by decide +kernel
theorem dX7_clearText_1 : decode cX7_clearText 1 = .ok (.getfield 113, 3) := by decide +kernel
theorem dX7_clearText_4 : decode cX7_clearText 4 = .ok (.istore_n 1, 1) := by decide +kernel
theorem dX7_clearText_5 : decode cX7_clearText 5 = .ok (.aload_n 0, 1) := by decide +kernel
theorem dX7_clearText_6 : decode cX7_clearText 6 = .ok (.iconst 0, 1) := by decide +kernel
theorem dX7_clearText_7 : decode cX7_clearText 7 = .ok (.putfield 113, 3) := by decide +kernel
theorem dX7_clearText_10 : decode cX7_clearText 10 = .ok (.iload_n 1, 1) := by decide +kernel
theorem dX7_clearText_11 : decode cX7_clearText 11 = .ok (.ireturn, 1) := by decide +kernel
theorem dX7_isHere_0 : decode cX7_isHere 0 = .ok (.aload_n 0, 1) := by decide +kernel
theorem dX7_isHere_1 : decode cX7_isHere 1 = .ok (.getfield 116, 3) := by decide +kernel
theorem dX7_isHere_4 : decode cX7_isHere 4 = .ok (.aload_n 0, 1) := by decide +kernel
theorem dX7_isHere_5 : decode cX7_isHere 5 = .ok (.getfield 113, 3) := by decide +kernel
theorem dX7_isHere_8 : decode cX7_isHere 8 = .ok (.if_icmp .ge 27, 3) := by decide +kernel
theorem dX7_isHere_11 : decode cX7_isHere 11 = .ok (.aload_n 0, 1) := by decide +kernel
theorem dX7_isHere_12 : decode cX7_isHere 12 = .ok (.getfield 22, 3) := by decide +kernel
theorem dX7_isHere_15 : decode cX7_isHere 15 = .ok (.aload_n 0, 1) := by decide +kernel
theorem dX7_isHere_16 : decode cX7_isHere 16 = .ok (.getfield 116, 3) := by decide +kernel
theorem dX7_isHere_19 : decode cX7_isHere 19 = .ok (.iaload, 1) := by decide +kernel
theorem dX7_isHere_20 : decode cX7_isHere 20 = .ok (.i2l, 1) := by decide +kernel
theorem dX7_isHere_21 : decode cX7_isHere 21 = .ok (.iload_n 1, 1) := by decide +kernel
theorem dX7_isHere_22 : decode cX7_isHere 22 = .ok (.i2l, 1) := by decide +kernel
theorem dX7_isHere_23 : decode cX7_isHere 23 = .ok (.iload_n 2, 1) := by decide +kernel
theorem dX7_isHere_24 : decode cX7_isHere 24 = .ok (.i2l, 1) := by decide +kernel
theorem dX7_isHere_25 : decode cX7_isHere 25 = .ok (.invokestatic 34, 3) := by decide +kernel
theorem dX7_isHere_28 : decode cX7_isHere 28 = .ok (.ifCond .eq 7, 3) := by decide +kernel
theorem dX7_isHere_31 : decode cX7_isHere 31 = .ok (.iconst 1, 1) := by decide +kernel
theorem dX7_isHere_32 : decode cX7_isHere 32 = .ok (.goto 4, 3) := by decide +kernel
theorem dX7_isHere_35 : decode cX7_isHere 35 = .ok (.iconst 0, 1) := by decide +kernel
theorem dX7_isHere_36 : decode cX7_isHere 36 = .ok (.ireturn, 1) := by decide +kernel
theorem dX7_takes_0 : decode cX7_takes 0 = .ok (.aload_n 0, 1) := by decide +kernel
theorem dX7_takes_1 : decode cX7_takes 1 = .ok (.iload_n 1, 1) := by decide +kernel
theorem dX7_takes_2 : decode cX7_takes 2 = .ok (.iload_n 1, 1) := by decide +kernel
theorem dX7_takes_3 : decode cX7_takes 3 = .ok (.invokevirtual 119, 3) := by decide +kernel
theorem dX7_takes_6 : decode cX7_takes 6 = .ok (.istore_n 2, 1) := by decide +kernel
theorem dX7_takes_7 : decode cX7_takes 7 = .ok (.aload_n 0, 1) := by decide +kernel
theorem dX7_takes_8 : decode cX7_takes 8 = .ok (.dup, 1) := by decide +kernel
theorem dX7_takes_9 : decode cX7_takes 9 = .ok (.getfield 116, 3) := by decide +kernel
theorem dX7_takes_12 : decode cX7_takes 12 = .ok (.iload_n 2, 1) := by decide +kernel
theorem dX7_takes_13 : decode cX7_takes 13 = .ok (.ifCond .eq 7, 3) := by decide +kernel
theorem dX7_takes_16 : decode cX7_takes 16 = .ok (.iconst 1, 1) := by decide +kernel
theorem dX7_takes_17 : decode cX7_takes 17 = .ok (.goto 4, 3) := by decide +kernel
theorem dX7_takes_20 : decode cX7_takes 20 = .ok (.iconst 0, 1) := by decide +kernel
theorem dX7_takes_21 : decode cX7_takes 21 = .ok (.iadd, 1) := by decide +kernel
theorem dX7_takes_22 : decode cX7_takes 22 = .ok (.putfield 116, 3) := by decide +kernel
theorem dX7_takes_25 : decode cX7_takes 25 = .ok (.iload_n 2, 1) := by decide +kernel
theorem dX7_takes_26 : decode cX7_takes 26 = .ok (.ireturn, 1) := by decide +kernel
theorem dX7_readsNumber_0 : decode cX7_readsNumber 0 = .ok (.aload_n 0, 1) := by decide +kernel
theorem dX7_readsNumber_1 : decode cX7_readsNumber 1 = .ok (.bipush 48, 2) := by decide +kernel
theorem dX7_readsNumber_3 : decode cX7_readsNumber 3 = .ok (.bipush 57, 2) := by decide +kernel
theorem dX7_readsNumber_5 : decode cX7_readsNumber 5 = .ok (.invokevirtual 119, 3) := by decide +kernel
theorem dX7_readsNumber_8 : decode cX7_readsNumber 8 = .ok (.ifCond .ne 5, 3) := by decide +kernel
theorem dX7_readsNumber_11 : decode cX7_readsNumber 11 = .ok (.iconst 0, 1) := by decide +kernel
theorem dX7_readsNumber_12 : decode cX7_readsNumber 12 = .ok (.ireturn, 1) := by decide +kernel
theorem dX7_readsNumber_13 : decode cX7_readsNumber 13 = .ok (.aload_n 0, 1) := by decide +kernel
theorem dX7_readsNumber_14 : decode cX7_readsNumber 14 = .ok (.aload_n 0, 1) := by decide +kernel
theorem dX7_readsNumber_15 : decode cX7_readsNumber 15 = .ok (.getfield 22, 3) := by decide +kernel
theorem dX7_readsNumber_18 : decode cX7_readsNumber 18 = .ok (.aload_n 0, 1) := by decide +kernel
theorem dX7_readsNumber_19 : decode cX7_readsNumber 19 = .ok (.getfield 116, 3) := by decide +kernel
theorem dX7_readsNumber_22 : decode cX7_readsNumber 22 = .ok (.iaload, 1) := by decide +kernel
theorem dX7_readsNumber_23 : decode cX7_readsNumber 23 = .ok (.bipush 48, 2) := by decide +kernel
theorem dX7_readsNumber_25 : decode cX7_readsNumber 25 = .ok (.isub, 1) := by decide +kernel
theorem dX7_readsNumber_26 : decode cX7_readsNumber 26 = .ok (.putfield 122, 3) := by decide +kernel
theorem dX7_readsNumber_29 : decode cX7_readsNumber 29 = .ok (.aload_n 0, 1) := by decide +kernel
theorem dX7_readsNumber_30 : decode cX7_readsNumber 30 = .ok (.dup, 1) := by decide +kernel
theorem dX7_readsNumber_31 : decode cX7_readsNumber 31 = .ok (.getfield 116, 3) := by decide +kernel
theorem dX7_readsNumber_34 : decode cX7_readsNumber 34 = .ok (.iconst 1, 1) := by decide +kernel
theorem dX7_readsNumber_35 : decode cX7_readsNumber 35 = .ok (.iadd, 1) := by decide +kernel
theorem dX7_readsNumber_36 : decode cX7_readsNumber 36 = .ok (.putfield 116, 3) := by decide +kernel
theorem dX7_readsNumber_39 : decode cX7_readsNumber 39 = .ok (.aload_n 0, 1) := by decide +kernel
theorem dX7_readsNumber_40 : decode cX7_readsNumber 40 = .ok (.getfield 122, 3) := by decide +kernel
theorem dX7_readsNumber_43 : decode cX7_readsNumber 43 = .ok (.ifCond .le 72, 3) := by decide +kernel
theorem dX7_readsNumber_46 : decode cX7_readsNumber 46 = .ok (.aload_n 0, 1) := by decide +kernel
theorem dX7_readsNumber_47 : decode cX7_readsNumber 47 = .ok (.bipush 48, 2) := by decide +kernel
theorem dX7_readsNumber_49 : decode cX7_readsNumber 49 = .ok (.bipush 57, 2) := by decide +kernel
theorem dX7_readsNumber_51 : decode cX7_readsNumber 51 = .ok (.invokevirtual 119, 3) := by decide +kernel
theorem dX7_readsNumber_54 : decode cX7_readsNumber 54 = .ok (.ifCond .eq 61, 3) := by decide +kernel
theorem dX7_readsNumber_57 : decode cX7_readsNumber 57 = .ok (.bipush 10, 2) := by decide +kernel
theorem dX7_readsNumber_59 : decode cX7_readsNumber 59 = .ok (.aload_n 0, 1) := by decide +kernel
theorem dX7_readsNumber_60 : decode cX7_readsNumber 60 = .ok (.getfield 122, 3) := by decide +kernel
theorem dX7_readsNumber_63 : decode cX7_readsNumber 63 = .ok (.imul, 1) := by decide +kernel
theorem dX7_readsNumber_64 : decode cX7_readsNumber 64 = .ok (.aload_n 0, 1) := by decide +kernel
theorem dX7_readsNumber_65 : decode cX7_readsNumber 65 = .ok (.getfield 22, 3) := by decide +kernel
theorem dX7_readsNumber_68 : decode cX7_readsNumber 68 = .ok (.aload_n 0, 1) := by decide +kernel
theorem dX7_readsNumber_69 : decode cX7_readsNumber 69 = .ok (.getfield 116, 3) := by decide +kernel
theorem dX7_readsNumber_72 : decode cX7_readsNumber 72 = .ok (.iaload, 1) := by decide +kernel
theorem dX7_readsNumber_73 : decode cX7_readsNumber 73 = .ok (.iadd, 1) := by decide +kernel
theorem dX7_readsNumber_74 : decode cX7_readsNumber 74 = .ok (.bipush 48, 2) := by decide +kernel
theorem dX7_readsNumber_76 : decode cX7_readsNumber 76 = .ok (.isub, 1) := by decide +kernel
theorem dX7_readsNumber_77 : decode cX7_readsNumber 77 = .ok (.iload_n 1, 1) := by decide +kernel
theorem dX7_readsNumber_78 : decode cX7_readsNumber 78 = .ok (.if_icmp .gt 37, 3) := by decide +kernel
theorem dX7_readsNumber_81 : decode cX7_readsNumber 81 = .ok (.aload_n 0, 1) := by decide +kernel
theorem dX7_readsNumber_82 : decode cX7_readsNumber 82 = .ok (.bipush 10, 2) := by decide +kernel
theorem dX7_readsNumber_84 : decode cX7_readsNumber 84 = .ok (.aload_n 0, 1) := by decide +kernel
theorem dX7_readsNumber_85 : decode cX7_readsNumber 85 = .ok (.getfield 122, 3) := by decide +kernel
theorem dX7_readsNumber_88 : decode cX7_readsNumber 88 = .ok (.imul, 1) := by decide +kernel
theorem dX7_readsNumber_89 : decode cX7_readsNumber 89 = .ok (.aload_n 0, 1) := by decide +kernel
theorem dX7_readsNumber_90 : decode cX7_readsNumber 90 = .ok (.getfield 22, 3) := by decide +kernel
theorem dX7_readsNumber_93 : decode cX7_readsNumber 93 = .ok (.aload_n 0, 1) := by decide +kernel
theorem dX7_readsNumber_94 : decode cX7_readsNumber 94 = .ok (.getfield 116, 3) := by decide +kernel
theorem dX7_readsNumber_97 : decode cX7_readsNumber 97 = .ok (.iaload, 1) := by decide +kernel
theorem dX7_readsNumber_98 : decode cX7_readsNumber 98 = .ok (.iadd, 1) := by decide +kernel
theorem dX7_readsNumber_99 : decode cX7_readsNumber 99 = .ok (.bipush 48, 2) := by decide +kernel
theorem dX7_readsNumber_101 : decode cX7_readsNumber 101 = .ok (.isub, 1) := by decide +kernel
theorem dX7_readsNumber_102 : decode cX7_readsNumber 102 = .ok (.putfield 122, 3) := by decide +kernel
theorem dX7_readsNumber_105 : decode cX7_readsNumber 105 = .ok (.aload_n 0, 1) := by decide +kernel
theorem dX7_readsNumber_106 : decode cX7_readsNumber 106 = .ok (.dup, 1) := by decide +kernel
theorem dX7_readsNumber_107 : decode cX7_readsNumber 107 = .ok (.getfield 116, 3) := by decide +kernel
theorem dX7_readsNumber_110 : decode cX7_readsNumber 110 = .ok (.iconst 1, 1) := by decide +kernel
theorem dX7_readsNumber_111 : decode cX7_readsNumber 111 = .ok (.iadd, 1) := by decide +kernel
theorem dX7_readsNumber_112 : decode cX7_readsNumber 112 = .ok (.putfield 116, 3) := by decide +kernel
theorem dX7_readsNumber_115 : decode cX7_readsNumber 115 = .ok (.iconst 1, 1) := by decide +kernel
theorem dX7_readsNumber_116 : decode cX7_readsNumber 116 = .ok (.ireturn, 1) := by decide +kernel
theorem dX7_isTold_0 : decode cX7_isTold 0 = .ok (.aload_n 0, 1) := by decide +kernel
theorem dX7_isTold_1 : decode cX7_isTold 1 = .ok (.dup, 1) := by decide +kernel
theorem dX7_isTold_2 : decode cX7_isTold 2 = .ok (.getfield 116, 3) := by decide +kernel
theorem dX7_isTold_5 : decode cX7_isTold 5 = .ok (.iload_n 1, 1) := by decide +kernel
theorem dX7_isTold_6 : decode cX7_isTold 6 = .ok (.ifCond .eq 7, 3) := by decide +kernel
theorem dX7_isTold_9 : decode cX7_isTold 9 = .ok (.iconst 0, 1) := by decide +kernel
theorem dX7_isTold_10 : decode cX7_isTold 10 = .ok (.goto 4, 3) := by decide +kernel
theorem dX7_isTold_13 : decode cX7_isTold 13 = .ok (.iconst 1, 1) := by decide +kernel
theorem dX7_isTold_14 : decode cX7_isTold 14 = .ok (.isub, 1) := by decide +kernel
theorem dX7_isTold_15 : decode cX7_isTold 15 = .ok (.putfield 116, 3) := by decide +kernel
theorem dX7_isTold_18 : decode cX7_isTold 18 = .ok (.iload_n 1, 1) := by decide +kernel
theorem dX7_isTold_19 : decode cX7_isTold 19 = .ok (.ireturn, 1) := by decide +kernel
theorem dX7_readsLink_0 : decode cX7_readsLink 0 = .ok (.iconst 4, 1) := by decide +kernel
theorem dX7_readsLink_1 : decode cX7_readsLink 1 = .ok (.aload_n 0, 1) := by decide +kernel
theorem dX7_readsLink_2 : decode cX7_readsLink 2 = .ok (.getfield 125, 3) := by decide +kernel
theorem dX7_readsLink_5 : decode cX7_readsLink 5 = .ok (.imul, 1) := by decide +kernel
theorem dX7_readsLink_6 : decode cX7_readsLink 6 = .ok (.istore_n 1, 1) := by decide +kernel
theorem dX7_readsLink_7 : decode cX7_readsLink 7 = .ok (.aload_n 0, 1) := by decide +kernel
theorem dX7_readsLink_8 : decode cX7_readsLink 8 = .ok (.bipush 15, 2) := by decide +kernel
theorem dX7_readsLink_10 : decode cX7_readsLink 10 = .ok (.invokevirtual 128, 3) := by decide +kernel
theorem dX7_readsLink_13 : decode cX7_readsLink 13 = .ok (.ifCond .ne 5, 3) := by decide +kernel
theorem dX7_readsLink_16 : decode cX7_readsLink 16 = .ok (.iconst 0, 1) := by decide +kernel
theorem dX7_readsLink_17 : decode cX7_readsLink 17 = .ok (.ireturn, 1) := by decide +kernel
theorem dX7_readsLink_18 : decode cX7_readsLink 18 = .ok (.aload_n 0, 1) := by decide +kernel
theorem dX7_readsLink_19 : decode cX7_readsLink 19 = .ok (.getfield 122, 3) := by decide +kernel
theorem dX7_readsLink_22 : decode cX7_readsLink 22 = .ok (.istore_n 2, 1) := by decide +kernel
theorem dX7_readsLink_23 : decode cX7_readsLink 23 = .ok (.aload_n 0, 1) := by decide +kernel
theorem dX7_readsLink_24 : decode cX7_readsLink 24 = .ok (.bipush 45, 2) := by decide +kernel
theorem dX7_readsLink_26 : decode cX7_readsLink 26 = .ok (.invokevirtual 131, 3) := by decide +kernel
theorem dX7_readsLink_29 : decode cX7_readsLink 29 = .ok (.ifCond .eq 32, 3) := by decide +kernel
theorem dX7_readsLink_32 : decode cX7_readsLink 32 = .ok (.aload_n 0, 1) := by decide +kernel
theorem dX7_readsLink_33 : decode cX7_readsLink 33 = .ok (.bipush 15, 2) := by decide +kernel
theorem dX7_readsLink_35 : decode cX7_readsLink 35 = .ok (.invokevirtual 128, 3) := by decide +kernel
theorem dX7_readsLink_38 : decode cX7_readsLink 38 = .ok (.ifCond .eq 23, 3) := by decide +kernel
theorem dX7_readsLink_41 : decode cX7_readsLink 41 = .ok (.aload_n 0, 1) := by decide +kernel
theorem dX7_readsLink_42 : decode cX7_readsLink 42 = .ok (.aload_n 0, 1) := by decide +kernel
theorem dX7_readsLink_43 : decode cX7_readsLink 43 = .ok (.getfield 122, 3) := by decide +kernel
theorem dX7_readsLink_46 : decode cX7_readsLink 46 = .ok (.iload_n 2, 1) := by decide +kernel
theorem dX7_readsLink_47 : decode cX7_readsLink 47 = .ok (.if_icmp .eq 7, 3) := by decide +kernel
theorem dX7_readsLink_50 : decode cX7_readsLink 50 = .ok (.iconst 1, 1) := by decide +kernel
theorem dX7_readsLink_51 : decode cX7_readsLink 51 = .ok (.goto 4, 3) := by decide +kernel
theorem dX7_readsLink_54 : decode cX7_readsLink 54 = .ok (.iconst 0, 1) := by decide +kernel
theorem dX7_readsLink_55 : decode cX7_readsLink 55 = .ok (.invokevirtual 134, 3) := by decide +kernel
theorem dX7_readsLink_58 : decode cX7_readsLink 58 = .ok (.ifCond .ne 5, 3) := by decide +kernel
theorem dX7_readsLink_61 : decode cX7_readsLink 61 = .ok (.iconst 0, 1) := by decide +kernel
theorem dX7_readsLink_62 : decode cX7_readsLink 62 = .ok (.ireturn, 1) := by decide +kernel
theorem dX7_readsLink_63 : decode cX7_readsLink 63 = .ok (.aload_n 0, 1) := by decide +kernel
theorem dX7_readsLink_64 : decode cX7_readsLink 64 = .ok (.getfield 122, 3) := by decide +kernel
theorem dX7_readsLink_67 : decode cX7_readsLink 67 = .ok (.istore_n 3, 1) := by decide +kernel
theorem dX7_readsLink_68 : decode cX7_readsLink 68 = .ok (.aload_n 0, 1) := by decide +kernel
theorem dX7_readsLink_69 : decode cX7_readsLink 69 = .ok (.bipush 64, 2) := by decide +kernel
theorem dX7_readsLink_71 : decode cX7_readsLink 71 = .ok (.invokevirtual 131, 3) := by decide +kernel
theorem dX7_readsLink_74 : decode cX7_readsLink 74 = .ok (.ifCond .eq 12, 3) := by decide +kernel
theorem dX7_readsLink_77 : decode cX7_readsLink 77 = .ok (.aload_n 0, 1) := by decide +kernel
theorem dX7_readsLink_78 : decode cX7_readsLink 78 = .ok (.bipush 63, 2) := by decide +kernel
theorem dX7_readsLink_80 : decode cX7_readsLink 80 = .ok (.invokevirtual 128, 3) := by decide +kernel
theorem dX7_readsLink_83 : decode cX7_readsLink 83 = .ok (.ifCond .ne 5, 3) := by decide +kernel
theorem dX7_readsLink_86 : decode cX7_readsLink 86 = .ok (.iconst 0, 1) := by decide +kernel
theorem dX7_readsLink_87 : decode cX7_readsLink 87 = .ok (.ireturn, 1) := by decide +kernel
theorem dX7_readsLink_88 : decode cX7_readsLink 88 = .ok (.aload_n 0, 1) := by decide +kernel
theorem dX7_readsLink_89 : decode cX7_readsLink 89 = .ok (.getfield 122, 3) := by decide +kernel
theorem dX7_readsLink_92 : decode cX7_readsLink 92 = .ok (.istore 4, 2) := by decide +kernel
theorem dX7_readsLink_94 : decode cX7_readsLink 94 = .ok (.aload_n 0, 1) := by decide +kernel
theorem dX7_readsLink_95 : decode cX7_readsLink 95 = .ok (.bipush 58, 2) := by decide +kernel
theorem dX7_readsLink_97 : decode cX7_readsLink 97 = .ok (.invokevirtual 131, 3) := by decide +kernel
theorem dX7_readsLink_100 : decode cX7_readsLink 100 = .ok (.ifCond .eq 33, 3) := by decide +kernel
theorem dX7_readsLink_103 : decode cX7_readsLink 103 = .ok (.aload_n 0, 1) := by decide +kernel
theorem dX7_readsLink_104 : decode cX7_readsLink 104 = .ok (.bipush 64, 2) := by decide +kernel
theorem dX7_readsLink_106 : decode cX7_readsLink 106 = .ok (.invokevirtual 128, 3) := by decide +kernel
theorem dX7_readsLink_109 : decode cX7_readsLink 109 = .ok (.ifCond .eq 24, 3) := by decide +kernel
theorem dX7_readsLink_112 : decode cX7_readsLink 112 = .ok (.aload_n 0, 1) := by decide +kernel
theorem dX7_readsLink_113 : decode cX7_readsLink 113 = .ok (.aload_n 0, 1) := by decide +kernel
theorem dX7_readsLink_114 : decode cX7_readsLink 114 = .ok (.getfield 122, 3) := by decide +kernel
theorem dX7_readsLink_117 : decode cX7_readsLink 117 = .ok (.iload 4, 2) := by decide +kernel
theorem dX7_readsLink_119 : decode cX7_readsLink 119 = .ok (.if_icmp .le 7, 3) := by decide +kernel
theorem dX7_readsLink_122 : decode cX7_readsLink 122 = .ok (.iconst 1, 1) := by decide +kernel
theorem dX7_readsLink_123 : decode cX7_readsLink 123 = .ok (.goto 4, 3) := by decide +kernel
theorem dX7_readsLink_126 : decode cX7_readsLink 126 = .ok (.iconst 0, 1) := by decide +kernel
theorem dX7_readsLink_127 : decode cX7_readsLink 127 = .ok (.invokevirtual 134, 3) := by decide +kernel
theorem dX7_readsLink_130 : decode cX7_readsLink 130 = .ok (.ifCond .ne 5, 3) := by decide +kernel
theorem dX7_readsLink_133 : decode cX7_readsLink 133 = .ok (.iconst 0, 1) := by decide +kernel
theorem dX7_readsLink_134 : decode cX7_readsLink 134 = .ok (.ireturn, 1) := by decide +kernel
theorem dX7_readsLink_135 : decode cX7_readsLink 135 = .ok (.aload_n 0, 1) := by decide +kernel
theorem dX7_readsLink_136 : decode cX7_readsLink 136 = .ok (.getfield 25, 3) := by decide +kernel
theorem dX7_readsLink_139 : decode cX7_readsLink 139 = .ok (.iload_n 1, 1) := by decide +kernel
theorem dX7_readsLink_140 : decode cX7_readsLink 140 = .ok (.iload_n 2, 1) := by decide +kernel
theorem dX7_readsLink_141 : decode cX7_readsLink 141 = .ok (.iastore, 1) := by decide +kernel
theorem dX7_readsLink_142 : decode cX7_readsLink 142 = .ok (.aload_n 0, 1) := by decide +kernel
theorem dX7_readsLink_143 : decode cX7_readsLink 143 = .ok (.getfield 25, 3) := by decide +kernel
theorem dX7_readsLink_146 : decode cX7_readsLink 146 = .ok (.iload_n 1, 1) := by decide +kernel
theorem dX7_readsLink_147 : decode cX7_readsLink 147 = .ok (.iconst 1, 1) := by decide +kernel
theorem dX7_readsLink_148 : decode cX7_readsLink 148 = .ok (.iadd, 1) := by decide +kernel
theorem dX7_readsLink_149 : decode cX7_readsLink 149 = .ok (.iload_n 3, 1) := by decide +kernel
theorem dX7_readsLink_150 : decode cX7_readsLink 150 = .ok (.iastore, 1) := by decide +kernel
theorem dX7_readsLink_151 : decode cX7_readsLink 151 = .ok (.aload_n 0, 1) := by decide +kernel
theorem dX7_readsLink_152 : decode cX7_readsLink 152 = .ok (.getfield 25, 3) := by decide +kernel
theorem dX7_readsLink_155 : decode cX7_readsLink 155 = .ok (.iload_n 1, 1) := by decide +kernel
theorem dX7_readsLink_156 : decode cX7_readsLink 156 = .ok (.iconst 2, 1) := by decide +kernel
theorem dX7_readsLink_157 : decode cX7_readsLink 157 = .ok (.iadd, 1) := by decide +kernel
theorem dX7_readsLink_158 : decode cX7_readsLink 158 = .ok (.iload 4, 2) := by decide +kernel
theorem dX7_readsLink_160 : decode cX7_readsLink 160 = .ok (.iastore, 1) := by decide +kernel
theorem dX7_readsLink_161 : decode cX7_readsLink 161 = .ok (.aload_n 0, 1) := by decide +kernel
theorem dX7_readsLink_162 : decode cX7_readsLink 162 = .ok (.getfield 25, 3) := by decide +kernel
theorem dX7_readsLink_165 : decode cX7_readsLink 165 = .ok (.iload_n 1, 1) := by decide +kernel
theorem dX7_readsLink_166 : decode cX7_readsLink 166 = .ok (.iconst 3, 1) := by decide +kernel
theorem dX7_readsLink_167 : decode cX7_readsLink 167 = .ok (.iadd, 1) := by decide +kernel
theorem dX7_readsLink_168 : decode cX7_readsLink 168 = .ok (.aload_n 0, 1) := by decide +kernel
theorem dX7_readsLink_169 : decode cX7_readsLink 169 = .ok (.getfield 122, 3) := by decide +kernel
theorem dX7_readsLink_172 : decode cX7_readsLink 172 = .ok (.iastore, 1) := by decide +kernel
theorem dX7_readsLink_173 : decode cX7_readsLink 173 = .ok (.aload_n 0, 1) := by decide +kernel
theorem dX7_readsLink_174 : decode cX7_readsLink 174 = .ok (.dup, 1) := by decide +kernel
theorem dX7_readsLink_175 : decode cX7_readsLink 175 = .ok (.getfield 125, 3) := by decide +kernel
theorem dX7_readsLink_178 : decode cX7_readsLink 178 = .ok (.iconst 1, 1) := by decide +kernel
theorem dX7_readsLink_179 : decode cX7_readsLink 179 = .ok (.iadd, 1) := by decide +kernel
theorem dX7_readsLink_180 : decode cX7_readsLink 180 = .ok (.putfield 125, 3) := by decide +kernel
theorem dX7_readsLink_183 : decode cX7_readsLink 183 = .ok (.iconst 1, 1) := by decide +kernel
theorem dX7_readsLink_184 : decode cX7_readsLink 184 = .ok (.ireturn, 1) := by decide +kernel
theorem dX7_fault_0 : decode cX7_fault 0 = .ok (.aload_n 0, 1) := by decide +kernel
theorem dX7_fault_1 : decode cX7_fault 1 = .ok (.iconst 0, 1) := by decide +kernel
theorem dX7_fault_2 : decode cX7_fault 2 = .ok (.putfield 116, 3) := by decide +kernel
theorem dX7_fault_5 : decode cX7_fault 5 = .ok (.aload_n 0, 1) := by decide +kernel
theorem dX7_fault_6 : decode cX7_fault 6 = .ok (.iconst 0, 1) := by decide +kernel
theorem dX7_fault_7 : decode cX7_fault 7 = .ok (.putfield 125, 3) := by decide +kernel
theorem dX7_fault_10 : decode cX7_fault 10 = .ok (.iconst 1, 1) := by decide +kernel
theorem dX7_fault_11 : decode cX7_fault 11 = .ok (.istore_n 1, 1) := by decide +kernel
theorem dX7_fault_12 : decode cX7_fault 12 = .ok (.iload_n 1, 1) := by decide +kernel
theorem dX7_fault_13 : decode cX7_fault 13 = .ok (.ifCond .eq 25, 3) := by decide +kernel
theorem dX7_fault_16 : decode cX7_fault 16 = .ok (.aload_n 0, 1) := by decide +kernel
theorem dX7_fault_17 : decode cX7_fault 17 = .ok (.invokevirtual 138, 3) := by decide +kernel
theorem dX7_fault_20 : decode cX7_fault 20 = .ok (.ifCond .ne 8, 3) := by decide +kernel
theorem dX7_fault_23 : decode cX7_fault 23 = .ok (.aload_n 0, 1) := by decide +kernel
theorem dX7_fault_24 : decode cX7_fault 24 = .ok (.getfield 116, 3) := by decide +kernel
theorem dX7_fault_27 : decode cX7_fault 27 = .ok (.ireturn, 1) := by decide +kernel
theorem dX7_fault_28 : decode cX7_fault 28 = .ok (.aload_n 0, 1) := by decide +kernel
theorem dX7_fault_29 : decode cX7_fault 29 = .ok (.bipush 44, 2) := by decide +kernel
theorem dX7_fault_31 : decode cX7_fault 31 = .ok (.invokevirtual 131, 3) := by decide +kernel
theorem dX7_fault_34 : decode cX7_fault 34 = .ok (.istore_n 1, 1) := by decide +kernel
theorem dX7_fault_35 : decode cX7_fault 35 = .ok (.goto (-23), 3) := by decide +kernel
theorem dX7_fault_38 : decode cX7_fault 38 = .ok (.aload_n 0, 1) := by decide +kernel
theorem dX7_fault_39 : decode cX7_fault 39 = .ok (.getfield 116, 3) := by decide +kernel
theorem dX7_fault_42 : decode cX7_fault 42 = .ok (.aload_n 0, 1) := by decide +kernel
theorem dX7_fault_43 : decode cX7_fault 43 = .ok (.getfield 113, 3) := by decide +kernel
theorem dX7_fault_46 : decode cX7_fault 46 = .ok (.if_icmp .ne 8, 3) := by decide +kernel
theorem dX7_fault_49 : decode cX7_fault 49 = .ok (.bipush (-5), 2) := by decide +kernel
theorem dX7_fault_51 : decode cX7_fault 51 = .ok (.goto 7, 3) := by decide +kernel
theorem dX7_fault_54 : decode cX7_fault 54 = .ok (.aload_n 0, 1) := by decide +kernel
theorem dX7_fault_55 : decode cX7_fault 55 = .ok (.getfield 116, 3) := by decide +kernel
theorem dX7_fault_58 : decode cX7_fault 58 = .ok (.ireturn, 1) := by decide +kernel
theorem dX7_readLinks_0 : decode cX7_readLinks 0 = .ok (.aload_n 0, 1) := by decide +kernel
theorem dX7_readLinks_1 : decode cX7_readLinks 1 = .ok (.invokevirtual 142, 3) := by decide +kernel
theorem dX7_readLinks_4 : decode cX7_readLinks 4 = .ok (.istore_n 1, 1) := by decide +kernel
theorem dX7_readLinks_5 : decode cX7_readLinks 5 = .ok (.iload_n 1, 1) := by decide +kernel
theorem dX7_readLinks_6 : decode cX7_readLinks 6 = .ok (.bipush (-5), 2) := by decide +kernel
theorem dX7_readLinks_8 : decode cX7_readLinks 8 = .ok (.if_icmp .eq 8, 3) := by decide +kernel
theorem dX7_readLinks_11 : decode cX7_readLinks 11 = .ok (.bipush (-100), 2) := by decide +kernel
theorem dX7_readLinks_13 : decode cX7_readLinks 13 = .ok (.iload_n 1, 1) := by decide +kernel
theorem dX7_readLinks_14 : decode cX7_readLinks 14 = .ok (.isub, 1) := by decide +kernel
theorem dX7_readLinks_15 : decode cX7_readLinks 15 = .ok (.ireturn, 1) := by decide +kernel
theorem dX7_readLinks_16 : decode cX7_readLinks 16 = .ok (.aload_n 0, 1) := by decide +kernel
theorem dX7_readLinks_17 : decode cX7_readLinks 17 = .ok (.getfield 7, 3) := by decide +kernel
theorem dX7_readLinks_20 : decode cX7_readLinks 20 = .ok (.iconst 0, 1) := by decide +kernel
theorem dX7_readLinks_21 : decode cX7_readLinks 21 = .ok (.iaload, 1) := by decide +kernel
theorem dX7_readLinks_22 : decode cX7_readLinks 22 = .ok (.aload_n 0, 1) := by decide +kernel
theorem dX7_readLinks_23 : decode cX7_readLinks 23 = .ok (.getfield 125, 3) := by decide +kernel
theorem dX7_readLinks_26 : decode cX7_readLinks 26 = .ok (.iadd, 1) := by decide +kernel
theorem dX7_readLinks_27 : decode cX7_readLinks 27 = .ok (.bipush 40, 2) := by decide +kernel
theorem dX7_readLinks_29 : decode cX7_readLinks 29 = .ok (.if_icmp .le 6, 3) := by decide +kernel
theorem dX7_readLinks_32 : decode cX7_readLinks 32 = .ok (.bipush (-3), 2) := by decide +kernel
theorem dX7_readLinks_34 : decode cX7_readLinks 34 = .ok (.ireturn, 1) := by decide +kernel
theorem dX7_readLinks_35 : decode cX7_readLinks 35 = .ok (.aload_n 0, 1) := by decide +kernel
theorem dX7_readLinks_36 : decode cX7_readLinks 36 = .ok (.invokevirtual 89, 3) := by decide +kernel
theorem dX7_readLinks_39 : decode cX7_readLinks 39 = .ok (.iconst 0, 1) := by decide +kernel
theorem dX7_readLinks_40 : decode cX7_readLinks 40 = .ok (.istore_n 2, 1) := by decide +kernel
theorem dX7_readLinks_41 : decode cX7_readLinks 41 = .ok (.iload_n 2, 1) := by decide +kernel
theorem dX7_readLinks_42 : decode cX7_readLinks 42 = .ok (.aload_n 0, 1) := by decide +kernel
theorem dX7_readLinks_43 : decode cX7_readLinks 43 = .ok (.getfield 125, 3) := by decide +kernel
theorem dX7_readLinks_46 : decode cX7_readLinks 46 = .ok (.if_icmp .ge 51, 3) := by decide +kernel
theorem dX7_readLinks_49 : decode cX7_readLinks 49 = .ok (.aload_n 0, 1) := by decide +kernel
theorem dX7_readLinks_50 : decode cX7_readLinks 50 = .ok (.aload_n 0, 1) := by decide +kernel
theorem dX7_readLinks_51 : decode cX7_readLinks 51 = .ok (.getfield 25, 3) := by decide +kernel
theorem dX7_readLinks_54 : decode cX7_readLinks 54 = .ok (.iconst 4, 1) := by decide +kernel
theorem dX7_readLinks_55 : decode cX7_readLinks 55 = .ok (.iload_n 2, 1) := by decide +kernel
theorem dX7_readLinks_56 : decode cX7_readLinks 56 = .ok (.imul, 1) := by decide +kernel
theorem dX7_readLinks_57 : decode cX7_readLinks 57 = .ok (.iaload, 1) := by decide +kernel
theorem dX7_readLinks_58 : decode cX7_readLinks 58 = .ok (.aload_n 0, 1) := by decide +kernel
theorem dX7_readLinks_59 : decode cX7_readLinks 59 = .ok (.getfield 25, 3) := by decide +kernel
theorem dX7_readLinks_62 : decode cX7_readLinks 62 = .ok (.iconst 4, 1) := by decide +kernel
theorem dX7_readLinks_63 : decode cX7_readLinks 63 = .ok (.iload_n 2, 1) := by decide +kernel
theorem dX7_readLinks_64 : decode cX7_readLinks 64 = .ok (.imul, 1) := by decide +kernel
theorem dX7_readLinks_65 : decode cX7_readLinks 65 = .ok (.iconst 1, 1) := by decide +kernel
theorem dX7_readLinks_66 : decode cX7_readLinks 66 = .ok (.iadd, 1) := by decide +kernel
theorem dX7_readLinks_67 : decode cX7_readLinks 67 = .ok (.iaload, 1) := by decide +kernel
theorem dX7_readLinks_68 : decode cX7_readLinks 68 = .ok (.aload_n 0, 1) := by decide +kernel
theorem dX7_readLinks_69 : decode cX7_readLinks 69 = .ok (.getfield 25, 3) := by decide +kernel
theorem dX7_readLinks_72 : decode cX7_readLinks 72 = .ok (.iconst 4, 1) := by decide +kernel
theorem dX7_readLinks_73 : decode cX7_readLinks 73 = .ok (.iload_n 2, 1) := by decide +kernel
theorem dX7_readLinks_74 : decode cX7_readLinks 74 = .ok (.imul, 1) := by decide +kernel
theorem dX7_readLinks_75 : decode cX7_readLinks 75 = .ok (.iconst 2, 1) := by decide +kernel
theorem dX7_readLinks_76 : decode cX7_readLinks 76 = .ok (.iadd, 1) := by decide +kernel
theorem dX7_readLinks_77 : decode cX7_readLinks 77 = .ok (.iaload, 1) := by decide +kernel
theorem dX7_readLinks_78 : decode cX7_readLinks 78 = .ok (.aload_n 0, 1) := by decide +kernel
theorem dX7_readLinks_79 : decode cX7_readLinks 79 = .ok (.getfield 25, 3) := by decide +kernel
theorem dX7_readLinks_82 : decode cX7_readLinks 82 = .ok (.iconst 4, 1) := by decide +kernel
theorem dX7_readLinks_83 : decode cX7_readLinks 83 = .ok (.iload_n 2, 1) := by decide +kernel
theorem dX7_readLinks_84 : decode cX7_readLinks 84 = .ok (.imul, 1) := by decide +kernel
theorem dX7_readLinks_85 : decode cX7_readLinks 85 = .ok (.iconst 3, 1) := by decide +kernel
theorem dX7_readLinks_86 : decode cX7_readLinks 86 = .ok (.iadd, 1) := by decide +kernel
theorem dX7_readLinks_87 : decode cX7_readLinks 87 = .ok (.iaload, 1) := by decide +kernel
theorem dX7_readLinks_88 : decode cX7_readLinks 88 = .ok (.invokevirtual 92, 3) := by decide +kernel
theorem dX7_readLinks_91 : decode cX7_readLinks 91 = .ok (.iinc 2 1, 3) := by decide +kernel
theorem dX7_readLinks_94 : decode cX7_readLinks 94 = .ok (.goto (-53), 3) := by decide +kernel
theorem dX7_readLinks_97 : decode cX7_readLinks 97 = .ok (.aload_n 0, 1) := by decide +kernel
theorem dX7_readLinks_98 : decode cX7_readLinks 98 = .ok (.aload_n 0, 1) := by decide +kernel
theorem dX7_readLinks_99 : decode cX7_readLinks 99 = .ok (.getfield 7, 3) := by decide +kernel
theorem dX7_readLinks_102 : decode cX7_readLinks 102 = .ok (.iconst 0, 1) := by decide +kernel
theorem dX7_readLinks_103 : decode cX7_readLinks 103 = .ok (.iaload, 1) := by decide +kernel
theorem dX7_readLinks_104 : decode cX7_readLinks 104 = .ok (.invokevirtual 96, 3) := by decide +kernel
theorem dX7_readLinks_107 : decode cX7_readLinks 107 = .ok (.ireturn, 1) := by decide +kernel
theorem dX7_undo_0 : decode cX7_undo 0 = .ok (.aload_n 0, 1) := by decide +kernel
theorem dX7_undo_1 : decode cX7_undo 1 = .ok (.getfield 28, 3) := by decide +kernel
theorem dX7_undo_4 : decode cX7_undo 4 = .ok (.ifCond .ne 6, 3) := by decide +kernel
theorem dX7_undo_7 : decode cX7_undo 7 = .ok (.bipush (-5), 2) := by decide +kernel
theorem dX7_undo_9 : decode cX7_undo 9 = .ok (.ireturn, 1) := by decide +kernel
theorem dX7_undo_10 : decode cX7_undo 10 = .ok (.aload_n 0, 1) := by decide +kernel
theorem dX7_undo_11 : decode cX7_undo 11 = .ok (.dup, 1) := by decide +kernel
theorem dX7_undo_12 : decode cX7_undo 12 = .ok (.getfield 28, 3) := by decide +kernel
theorem dX7_undo_15 : decode cX7_undo 15 = .ok (.iconst 1, 1) := by decide +kernel
theorem dX7_undo_16 : decode cX7_undo 16 = .ok (.isub, 1) := by decide +kernel
theorem dX7_undo_17 : decode cX7_undo 17 = .ok (.putfield 28, 3) := by decide +kernel
theorem dX7_undo_20 : decode cX7_undo 20 = .ok (.iconst 0, 1) := by decide +kernel
theorem dX7_undo_21 : decode cX7_undo 21 = .ok (.istore_n 1, 1) := by decide +kernel
theorem dX7_undo_22 : decode cX7_undo 22 = .ok (.iload_n 1, 1) := by decide +kernel
theorem dX7_undo_23 : decode cX7_undo 23 = .ok (.sipush 161, 3) := by decide +kernel
theorem dX7_undo_26 : decode cX7_undo 26 = .ok (.if_icmp .ge 30, 3) := by decide +kernel
theorem dX7_undo_29 : decode cX7_undo 29 = .ok (.aload_n 0, 1) := by decide +kernel
theorem dX7_undo_30 : decode cX7_undo 30 = .ok (.getfield 7, 3) := by decide +kernel
theorem dX7_undo_33 : decode cX7_undo 33 = .ok (.iload_n 1, 1) := by decide +kernel
theorem dX7_undo_34 : decode cX7_undo 34 = .ok (.aload_n 0, 1) := by decide +kernel
theorem dX7_undo_35 : decode cX7_undo 35 = .ok (.getfield 16, 3) := by decide +kernel
theorem dX7_undo_38 : decode cX7_undo 38 = .ok (.sipush 161, 3) := by decide +kernel
theorem dX7_undo_41 : decode cX7_undo 41 = .ok (.aload_n 0, 1) := by decide +kernel
theorem dX7_undo_42 : decode cX7_undo 42 = .ok (.getfield 28, 3) := by decide +kernel
theorem dX7_undo_45 : decode cX7_undo 45 = .ok (.imul, 1) := by decide +kernel
theorem dX7_undo_46 : decode cX7_undo 46 = .ok (.iload_n 1, 1) := by decide +kernel
theorem dX7_undo_47 : decode cX7_undo 47 = .ok (.iadd, 1) := by decide +kernel
theorem dX7_undo_48 : decode cX7_undo 48 = .ok (.iaload, 1) := by decide +kernel
theorem dX7_undo_49 : decode cX7_undo 49 = .ok (.iastore, 1) := by decide +kernel
theorem dX7_undo_50 : decode cX7_undo 50 = .ok (.iinc 1 1, 3) := by decide +kernel
theorem dX7_undo_53 : decode cX7_undo 53 = .ok (.goto (-31), 3) := by decide +kernel
theorem dX7_undo_56 : decode cX7_undo 56 = .ok (.aload_n 0, 1) := by decide +kernel
theorem dX7_undo_57 : decode cX7_undo 57 = .ok (.getfield 28, 3) := by decide +kernel
theorem dX7_undo_60 : decode cX7_undo 60 = .ok (.ireturn, 1) := by decide +kernel
theorem dX7_keep_0 : decode cX7_keep 0 = .ok (.iconst 0, 1) := by decide +kernel
theorem dX7_keep_1 : decode cX7_keep 1 = .ok (.istore_n 1, 1) := by decide +kernel
theorem dX7_keep_2 : decode cX7_keep 2 = .ok (.iload_n 1, 1) := by decide +kernel
theorem dX7_keep_3 : decode cX7_keep 3 = .ok (.sipush 161, 3) := by decide +kernel
theorem dX7_keep_6 : decode cX7_keep 6 = .ok (.if_icmp .ge 21, 3) := by decide +kernel
theorem dX7_keep_9 : decode cX7_keep 9 = .ok (.aload_n 0, 1) := by decide +kernel
theorem dX7_keep_10 : decode cX7_keep 10 = .ok (.getfield 19, 3) := by decide +kernel
theorem dX7_keep_13 : decode cX7_keep 13 = .ok (.iload_n 1, 1) := by decide +kernel
theorem dX7_keep_14 : decode cX7_keep 14 = .ok (.aload_n 0, 1) := by decide +kernel
theorem dX7_keep_15 : decode cX7_keep 15 = .ok (.getfield 7, 3) := by decide +kernel
theorem dX7_keep_18 : decode cX7_keep 18 = .ok (.iload_n 1, 1) := by decide +kernel
theorem dX7_keep_19 : decode cX7_keep 19 = .ok (.iaload, 1) := by decide +kernel
theorem dX7_keep_20 : decode cX7_keep 20 = .ok (.iastore, 1) := by decide +kernel
theorem dX7_keep_21 : decode cX7_keep 21 = .ok (.iinc 1 1, 3) := by decide +kernel
theorem dX7_keep_24 : decode cX7_keep 24 = .ok (.goto (-22), 3) := by decide +kernel
theorem dX7_keep_27 : decode cX7_keep 27 = .ok (.aload_n 0, 1) := by decide +kernel
theorem dX7_keep_28 : decode cX7_keep 28 = .ok (.iconst 1, 1) := by decide +kernel
theorem dX7_keep_29 : decode cX7_keep 29 = .ok (.putfield 146, 3) := by decide +kernel
theorem dX7_keep_32 : decode cX7_keep 32 = .ok (.aload_n 0, 1) := by decide +kernel
theorem dX7_keep_33 : decode cX7_keep 33 = .ok (.getfield 7, 3) := by decide +kernel
theorem dX7_keep_36 : decode cX7_keep 36 = .ok (.iconst 0, 1) := by decide +kernel
theorem dX7_keep_37 : decode cX7_keep 37 = .ok (.iaload, 1) := by decide +kernel
theorem dX7_keep_38 : decode cX7_keep 38 = .ok (.ireturn, 1) := by decide +kernel
theorem dX7_restore_0 : decode cX7_restore 0 = .ok (.aload_n 0, 1) := by decide +kernel
theorem dX7_restore_1 : decode cX7_restore 1 = .ok (.getfield 146, 3) := by decide +kernel
theorem dX7_restore_4 : decode cX7_restore 4 = .ok (.ifCond .ne 6, 3) := by decide +kernel
theorem dX7_restore_7 : decode cX7_restore 7 = .ok (.bipush (-5), 2) := by decide +kernel
theorem dX7_restore_9 : decode cX7_restore 9 = .ok (.ireturn, 1) := by decide +kernel
theorem dX7_restore_10 : decode cX7_restore 10 = .ok (.aload_n 0, 1) := by decide +kernel
theorem dX7_restore_11 : decode cX7_restore 11 = .ok (.invokevirtual 89, 3) := by decide +kernel
theorem dX7_restore_14 : decode cX7_restore 14 = .ok (.iconst 0, 1) := by decide +kernel
theorem dX7_restore_15 : decode cX7_restore 15 = .ok (.istore_n 1, 1) := by decide +kernel
theorem dX7_restore_16 : decode cX7_restore 16 = .ok (.iload_n 1, 1) := by decide +kernel
theorem dX7_restore_17 : decode cX7_restore 17 = .ok (.sipush 161, 3) := by decide +kernel
theorem dX7_restore_20 : decode cX7_restore 20 = .ok (.if_icmp .ge 21, 3) := by decide +kernel
theorem dX7_restore_23 : decode cX7_restore 23 = .ok (.aload_n 0, 1) := by decide +kernel
theorem dX7_restore_24 : decode cX7_restore 24 = .ok (.getfield 7, 3) := by decide +kernel
theorem dX7_restore_27 : decode cX7_restore 27 = .ok (.iload_n 1, 1) := by decide +kernel
theorem dX7_restore_28 : decode cX7_restore 28 = .ok (.aload_n 0, 1) := by decide +kernel
theorem dX7_restore_29 : decode cX7_restore 29 = .ok (.getfield 19, 3) := by decide +kernel
theorem dX7_restore_32 : decode cX7_restore 32 = .ok (.iload_n 1, 1) := by decide +kernel
theorem dX7_restore_33 : decode cX7_restore 33 = .ok (.iaload, 1) := by decide +kernel
theorem dX7_restore_34 : decode cX7_restore 34 = .ok (.iastore, 1) := by decide +kernel
theorem dX7_restore_35 : decode cX7_restore 35 = .ok (.iinc 1 1, 3) := by decide +kernel
theorem dX7_restore_38 : decode cX7_restore 38 = .ok (.goto (-22), 3) := by decide +kernel
theorem dX7_restore_41 : decode cX7_restore 41 = .ok (.aload_n 0, 1) := by decide +kernel
theorem dX7_restore_42 : decode cX7_restore 42 = .ok (.aload_n 0, 1) := by decide +kernel
theorem dX7_restore_43 : decode cX7_restore 43 = .ok (.getfield 7, 3) := by decide +kernel
theorem dX7_restore_46 : decode cX7_restore 46 = .ok (.iconst 0, 1) := by decide +kernel
theorem dX7_restore_47 : decode cX7_restore 47 = .ok (.iaload, 1) := by decide +kernel
theorem dX7_restore_48 : decode cX7_restore 48 = .ok (.invokevirtual 96, 3) := by decide +kernel
theorem dX7_restore_51 : decode cX7_restore 51 = .ok (.ireturn, 1) := by decide +kernel
theorem dX7_momentsNeeded_0 : decode cX7_momentsNeeded 0 = .ok (.iconst 0, 1) := by decide +kernel
theorem dX7_momentsNeeded_1 : decode cX7_momentsNeeded 1 = .ok (.istore_n 2, 1) := by decide +kernel
theorem dX7_momentsNeeded_2 : decode cX7_momentsNeeded 2 = .ok (.aload_n 0, 1) := by decide +kernel
theorem dX7_momentsNeeded_3 : decode cX7_momentsNeeded 3 = .ok (.getfield 7, 3) := by decide +kernel
theorem dX7_momentsNeeded_6 : decode cX7_momentsNeeded 6 = .ok (.bipush 81, 2) := by decide +kernel
theorem dX7_momentsNeeded_8 : decode cX7_momentsNeeded 8 = .ok (.iload_n 1, 1) := by decide +kernel
theorem dX7_momentsNeeded_9 : decode cX7_momentsNeeded 9 = .ok (.iadd, 1) := by decide +kernel
theorem dX7_momentsNeeded_10 : decode cX7_momentsNeeded 10 = .ok (.iaload, 1) := by decide +kernel
theorem dX7_momentsNeeded_11 : decode cX7_momentsNeeded 11 = .ok (.istore_n 3, 1) := by decide +kernel
theorem dX7_momentsNeeded_12 : decode cX7_momentsNeeded 12 = .ok (.iload_n 3, 1) := by decide +kernel
theorem dX7_momentsNeeded_13 : decode cX7_momentsNeeded 13 = .ok (.aload_n 0, 1) := by decide +kernel
theorem dX7_momentsNeeded_14 : decode cX7_momentsNeeded 14 = .ok (.getfield 7, 3) := by decide +kernel
theorem dX7_momentsNeeded_17 : decode cX7_momentsNeeded 17 = .ok (.bipush 121, 2) := by decide +kernel
theorem dX7_momentsNeeded_19 : decode cX7_momentsNeeded 19 = .ok (.iload_n 1, 1) := by decide +kernel
theorem dX7_momentsNeeded_20 : decode cX7_momentsNeeded 20 = .ok (.iadd, 1) := by decide +kernel
theorem dX7_momentsNeeded_21 : decode cX7_momentsNeeded 21 = .ok (.iaload, 1) := by decide +kernel
theorem dX7_momentsNeeded_22 : decode cX7_momentsNeeded 22 = .ok (.if_icmp .ge 30, 3) := by decide +kernel
theorem dX7_momentsNeeded_25 : decode cX7_momentsNeeded 25 = .ok (.iload_n 2, 1) := by decide +kernel
theorem dX7_momentsNeeded_26 : decode cX7_momentsNeeded 26 = .ok (.aload_n 0, 1) := by decide +kernel
theorem dX7_momentsNeeded_27 : decode cX7_momentsNeeded 27 = .ok (.aload_n 0, 1) := by decide +kernel
theorem dX7_momentsNeeded_28 : decode cX7_momentsNeeded 28 = .ok (.iload_n 3, 1) := by decide +kernel
theorem dX7_momentsNeeded_29 : decode cX7_momentsNeeded 29 = .ok (.invokevirtual 106, 3) := by decide +kernel
theorem dX7_momentsNeeded_32 : decode cX7_momentsNeeded 32 = .ok (.iload_n 1, 1) := by decide +kernel
theorem dX7_momentsNeeded_33 : decode cX7_momentsNeeded 33 = .ok (.invokevirtual 149, 3) := by decide +kernel
theorem dX7_momentsNeeded_36 : decode cX7_momentsNeeded 36 = .ok (.ifCond .eq 7, 3) := by decide +kernel
theorem dX7_momentsNeeded_39 : decode cX7_momentsNeeded 39 = .ok (.iconst 1, 1) := by decide +kernel
theorem dX7_momentsNeeded_40 : decode cX7_momentsNeeded 40 = .ok (.goto 4, 3) := by decide +kernel
theorem dX7_momentsNeeded_43 : decode cX7_momentsNeeded 43 = .ok (.iconst 0, 1) := by decide +kernel
theorem dX7_momentsNeeded_44 : decode cX7_momentsNeeded 44 = .ok (.iadd, 1) := by decide +kernel
theorem dX7_momentsNeeded_45 : decode cX7_momentsNeeded 45 = .ok (.istore_n 2, 1) := by decide +kernel
theorem dX7_momentsNeeded_46 : decode cX7_momentsNeeded 46 = .ok (.iinc 3 1, 3) := by decide +kernel
theorem dX7_momentsNeeded_49 : decode cX7_momentsNeeded 49 = .ok (.goto (-37), 3) := by decide +kernel
theorem dX7_momentsNeeded_52 : decode cX7_momentsNeeded 52 = .ok (.iload_n 2, 1) := by decide +kernel
theorem dX7_momentsNeeded_53 : decode cX7_momentsNeeded 53 = .ok (.ireturn, 1) := by decide +kernel
theorem dX7_link_0 : decode cX7_link 0 = .ok (.aload_n 0, 1) := by decide +kernel
theorem dX7_link_1 : decode cX7_link 1 = .ok (.iload_n 1, 1) := by decide +kernel
theorem dX7_link_2 : decode cX7_link 2 = .ok (.invokevirtual 99, 3) := by decide +kernel
theorem dX7_link_5 : decode cX7_link 5 = .ok (.ifCond .ne 5, 3) := by decide +kernel
theorem dX7_link_8 : decode cX7_link 8 = .ok (.iconst (-1), 1) := by decide +kernel
theorem dX7_link_9 : decode cX7_link 9 = .ok (.ireturn, 1) := by decide +kernel
theorem dX7_link_10 : decode cX7_link 10 = .ok (.iload_n 2, 1) := by decide +kernel
theorem dX7_link_11 : decode cX7_link 11 = .ok (.tableswitch 88 0 5 #[37, 46, 56, 66, 76, 82], 37) := by decide +kernel
theorem dX7_link_48 : decode cX7_link 48 = .ok (.aload_n 0, 1) := by decide +kernel
theorem dX7_link_49 : decode cX7_link 49 = .ok (.getfield 7, 3) := by decide +kernel
theorem dX7_link_52 : decode cX7_link 52 = .ok (.iconst 1, 1) := by decide +kernel
theorem dX7_link_53 : decode cX7_link 53 = .ok (.iload_n 1, 1) := by decide +kernel
theorem dX7_link_54 : decode cX7_link 54 = .ok (.iadd, 1) := by decide +kernel
theorem dX7_link_55 : decode cX7_link 55 = .ok (.iaload, 1) := by decide +kernel
theorem dX7_link_56 : decode cX7_link 56 = .ok (.ireturn, 1) := by decide +kernel
theorem dX7_link_57 : decode cX7_link 57 = .ok (.aload_n 0, 1) := by decide +kernel
theorem dX7_link_58 : decode cX7_link 58 = .ok (.getfield 7, 3) := by decide +kernel
theorem dX7_link_61 : decode cX7_link 61 = .ok (.bipush 41, 2) := by decide +kernel
theorem dX7_link_63 : decode cX7_link 63 = .ok (.iload_n 1, 1) := by decide +kernel
theorem dX7_link_64 : decode cX7_link 64 = .ok (.iadd, 1) := by decide +kernel
theorem dX7_link_65 : decode cX7_link 65 = .ok (.iaload, 1) := by decide +kernel
theorem dX7_link_66 : decode cX7_link 66 = .ok (.ireturn, 1) := by decide +kernel
theorem dX7_link_67 : decode cX7_link 67 = .ok (.aload_n 0, 1) := by decide +kernel
theorem dX7_link_68 : decode cX7_link 68 = .ok (.getfield 7, 3) := by decide +kernel
theorem dX7_link_71 : decode cX7_link 71 = .ok (.bipush 81, 2) := by decide +kernel
theorem dX7_link_73 : decode cX7_link 73 = .ok (.iload_n 1, 1) := by decide +kernel
theorem dX7_link_74 : decode cX7_link 74 = .ok (.iadd, 1) := by decide +kernel
theorem dX7_link_75 : decode cX7_link 75 = .ok (.iaload, 1) := by decide +kernel
theorem dX7_link_76 : decode cX7_link 76 = .ok (.ireturn, 1) := by decide +kernel
theorem dX7_link_77 : decode cX7_link 77 = .ok (.aload_n 0, 1) := by decide +kernel
theorem dX7_link_78 : decode cX7_link 78 = .ok (.getfield 7, 3) := by decide +kernel
theorem dX7_link_81 : decode cX7_link 81 = .ok (.bipush 121, 2) := by decide +kernel
theorem dX7_link_83 : decode cX7_link 83 = .ok (.iload_n 1, 1) := by decide +kernel
theorem dX7_link_84 : decode cX7_link 84 = .ok (.iadd, 1) := by decide +kernel
theorem dX7_link_85 : decode cX7_link 85 = .ok (.iaload, 1) := by decide +kernel
theorem dX7_link_86 : decode cX7_link 86 = .ok (.ireturn, 1) := by decide +kernel
theorem dX7_link_87 : decode cX7_link 87 = .ok (.aload_n 0, 1) := by decide +kernel
theorem dX7_link_88 : decode cX7_link 88 = .ok (.iload_n 1, 1) := by decide +kernel
theorem dX7_link_89 : decode cX7_link 89 = .ok (.invokevirtual 153, 3) := by decide +kernel
theorem dX7_link_92 : decode cX7_link 92 = .ok (.ireturn, 1) := by decide +kernel
theorem dX7_link_93 : decode cX7_link 93 = .ok (.aload_n 0, 1) := by decide +kernel
theorem dX7_link_94 : decode cX7_link 94 = .ok (.iload_n 1, 1) := by decide +kernel
theorem dX7_link_95 : decode cX7_link 95 = .ok (.invokevirtual 156, 3) := by decide +kernel
theorem dX7_link_98 : decode cX7_link 98 = .ok (.ireturn, 1) := by decide +kernel
theorem dX7_link_99 : decode cX7_link 99 = .ok (.bipush (-2), 2) := by decide +kernel
theorem dX7_link_101 : decode cX7_link 101 = .ok (.ireturn, 1) := by decide +kernel
theorem dX7_joined_0 : decode cX7_joined 0 = .ok (.iload_n 1, 1) := by decide +kernel
theorem dX7_joined_1 : decode cX7_joined 1 = .ok (.invokestatic 40, 3) := by decide +kernel
theorem dX7_joined_4 : decode cX7_joined 4 = .ok (.ifCond .eq 17, 3) := by decide +kernel
theorem dX7_joined_7 : decode cX7_joined 7 = .ok (.iload_n 2, 1) := by decide +kernel
theorem dX7_joined_8 : decode cX7_joined 8 = .ok (.invokestatic 83, 3) := by decide +kernel
theorem dX7_joined_11 : decode cX7_joined 11 = .ok (.ifCond .eq 10, 3) := by decide +kernel
theorem dX7_joined_14 : decode cX7_joined 14 = .ok (.iload_n 3, 1) := by decide +kernel
theorem dX7_joined_15 : decode cX7_joined 15 = .ok (.invokestatic 83, 3) := by decide +kernel
theorem dX7_joined_18 : decode cX7_joined 18 = .ok (.ifCond .ne 5, 3) := by decide +kernel
theorem dX7_joined_21 : decode cX7_joined 21 = .ok (.iconst (-1), 1) := by decide +kernel
theorem dX7_joined_22 : decode cX7_joined 22 = .ok (.ireturn, 1) := by decide +kernel
theorem dX7_joined_23 : decode cX7_joined 23 = .ok (.aload_n 0, 1) := by decide +kernel
theorem dX7_joined_24 : decode cX7_joined 24 = .ok (.aload_n 0, 1) := by decide +kernel
theorem dX7_joined_25 : decode cX7_joined 25 = .ok (.iload_n 1, 1) := by decide +kernel
theorem dX7_joined_26 : decode cX7_joined 26 = .ok (.invokevirtual 106, 3) := by decide +kernel
theorem dX7_joined_29 : decode cX7_joined 29 = .ok (.iload_n 2, 1) := by decide +kernel
theorem dX7_joined_30 : decode cX7_joined 30 = .ok (.iload_n 3, 1) := by decide +kernel
theorem dX7_joined_31 : decode cX7_joined 31 = .ok (.invokevirtual 60, 3) := by decide +kernel
theorem dX7_joined_34 : decode cX7_joined 34 = .ok (.ifCond .eq 7, 3) := by decide +kernel
theorem dX7_joined_37 : decode cX7_joined 37 = .ok (.iconst 1, 1) := by decide +kernel
theorem dX7_joined_38 : decode cX7_joined 38 = .ok (.goto 4, 3) := by decide +kernel
theorem dX7_joined_41 : decode cX7_joined 41 = .ok (.iconst 0, 1) := by decide +kernel
theorem dX7_joined_42 : decode cX7_joined 42 = .ok (.ireturn, 1) := by decide +kernel
theorem dX7_greatestPart_0 : decode cX7_greatestPart 0 = .ok (.iconst 0, 1) := by decide +kernel
theorem dX7_greatestPart_1 : decode cX7_greatestPart 1 = .ok (.istore_n 3, 1) := by decide +kernel
theorem dX7_greatestPart_2 : decode cX7_greatestPart 2 = .ok (.iconst 0, 1) := by decide +kernel
theorem dX7_greatestPart_3 : decode cX7_greatestPart 3 = .ok (.istore 4, 2) := by decide +kernel
theorem dX7_greatestPart_5 : decode cX7_greatestPart 5 = .ok (.iload 4, 2) := by decide +kernel
theorem dX7_greatestPart_7 : decode cX7_greatestPart 7 = .ok (.bipush 16, 2) := by decide +kernel
theorem dX7_greatestPart_9 : decode cX7_greatestPart 9 = .ok (.if_icmp .ge 35, 3) := by decide +kernel
theorem dX7_greatestPart_12 : decode cX7_greatestPart 12 = .ok (.aload_n 0, 1) := by decide +kernel
theorem dX7_greatestPart_13 : decode cX7_greatestPart 13 = .ok (.lload_n 1, 1) := by decide +kernel
theorem dX7_greatestPart_14 : decode cX7_greatestPart 14 = .ok (.iload 4, 2) := by decide +kernel
theorem dX7_greatestPart_16 : decode cX7_greatestPart 16 = .ok (.invokevirtual 54, 3) := by decide +kernel
theorem dX7_greatestPart_19 : decode cX7_greatestPart 19 = .ok (.i2l, 1) := by decide +kernel
theorem dX7_greatestPart_20 : decode cX7_greatestPart 20 = .ok (.invokestatic 110, 3) := by decide +kernel
theorem dX7_greatestPart_23 : decode cX7_greatestPart 23 = .ok (.istore 5, 2) := by decide +kernel
theorem dX7_greatestPart_25 : decode cX7_greatestPart 25 = .ok (.iload 5, 2) := by decide +kernel
theorem dX7_greatestPart_27 : decode cX7_greatestPart 27 = .ok (.iload_n 3, 1) := by decide +kernel
theorem dX7_greatestPart_28 : decode cX7_greatestPart 28 = .ok (.if_icmp .le 8, 3) := by decide +kernel
theorem dX7_greatestPart_31 : decode cX7_greatestPart 31 = .ok (.iload 5, 2) := by decide +kernel
theorem dX7_greatestPart_33 : decode cX7_greatestPart 33 = .ok (.goto 4, 3) := by decide +kernel
theorem dX7_greatestPart_36 : decode cX7_greatestPart 36 = .ok (.iload_n 3, 1) := by decide +kernel
theorem dX7_greatestPart_37 : decode cX7_greatestPart 37 = .ok (.istore_n 3, 1) := by decide +kernel
theorem dX7_greatestPart_38 : decode cX7_greatestPart 38 = .ok (.iinc 4 1, 3) := by decide +kernel
theorem dX7_greatestPart_41 : decode cX7_greatestPart 41 = .ok (.goto (-36), 3) := by decide +kernel
theorem dX7_greatestPart_44 : decode cX7_greatestPart 44 = .ok (.iload_n 3, 1) := by decide +kernel
theorem dX7_greatestPart_45 : decode cX7_greatestPart 45 = .ok (.ireturn, 1) := by decide +kernel
theorem dX7_neededAt_0 : decode cX7_neededAt 0 = .ok (.iconst 0, 1) := by decide +kernel
theorem dX7_neededAt_1 : decode cX7_neededAt 1 = .ok (.istore_n 3, 1) := by decide +kernel
theorem dX7_neededAt_2 : decode cX7_neededAt 2 = .ok (.iconst 0, 1) := by decide +kernel
theorem dX7_neededAt_3 : decode cX7_neededAt 3 = .ok (.istore 4, 2) := by decide +kernel
theorem dX7_neededAt_5 : decode cX7_neededAt 5 = .ok (.iload 4, 2) := by decide +kernel
theorem dX7_neededAt_7 : decode cX7_neededAt 7 = .ok (.aload_n 0, 1) := by decide +kernel
theorem dX7_neededAt_8 : decode cX7_neededAt 8 = .ok (.getfield 7, 3) := by decide +kernel
theorem dX7_neededAt_11 : decode cX7_neededAt 11 = .ok (.iconst 0, 1) := by decide +kernel
theorem dX7_neededAt_12 : decode cX7_neededAt 12 = .ok (.iaload, 1) := by decide +kernel
theorem dX7_neededAt_13 : decode cX7_neededAt 13 = .ok (.if_icmp .ge 38, 3) := by decide +kernel
theorem dX7_neededAt_16 : decode cX7_neededAt 16 = .ok (.iload_n 3, 1) := by decide +kernel
theorem dX7_neededAt_17 : decode cX7_neededAt 17 = .ok (.lload_n 1, 1) := by decide +kernel
theorem dX7_neededAt_18 : decode cX7_neededAt 18 = .ok (.iload 4, 2) := by decide +kernel
theorem dX7_neededAt_20 : decode cX7_neededAt 20 = .ok (.lshr, 1) := by decide +kernel
theorem dX7_neededAt_21 : decode cX7_neededAt 21 = .ok (.lconst 1, 1) := by decide +kernel
theorem dX7_neededAt_22 : decode cX7_neededAt 22 = .ok (.land, 1) := by decide +kernel
theorem dX7_neededAt_23 : decode cX7_neededAt 23 = .ok (.lconst 1, 1) := by decide +kernel
theorem dX7_neededAt_24 : decode cX7_neededAt 24 = .ok (.lcmp, 1) := by decide +kernel
theorem dX7_neededAt_25 : decode cX7_neededAt 25 = .ok (.ifCond .ne 17, 3) := by decide +kernel
theorem dX7_neededAt_28 : decode cX7_neededAt 28 = .ok (.aload_n 0, 1) := by decide +kernel
theorem dX7_neededAt_29 : decode cX7_neededAt 29 = .ok (.lload_n 1, 1) := by decide +kernel
theorem dX7_neededAt_30 : decode cX7_neededAt 30 = .ok (.iload 4, 2) := by decide +kernel
theorem dX7_neededAt_32 : decode cX7_neededAt 32 = .ok (.invokevirtual 149, 3) := by decide +kernel
theorem dX7_neededAt_35 : decode cX7_neededAt 35 = .ok (.ifCond .eq 7, 3) := by decide +kernel
theorem dX7_neededAt_38 : decode cX7_neededAt 38 = .ok (.iconst 1, 1) := by decide +kernel
theorem dX7_neededAt_39 : decode cX7_neededAt 39 = .ok (.goto 4, 3) := by decide +kernel
theorem dX7_neededAt_42 : decode cX7_neededAt 42 = .ok (.iconst 0, 1) := by decide +kernel
theorem dX7_neededAt_43 : decode cX7_neededAt 43 = .ok (.iadd, 1) := by decide +kernel
theorem dX7_neededAt_44 : decode cX7_neededAt 44 = .ok (.istore_n 3, 1) := by decide +kernel
theorem dX7_neededAt_45 : decode cX7_neededAt 45 = .ok (.iinc 4 1, 3) := by decide +kernel
theorem dX7_neededAt_48 : decode cX7_neededAt 48 = .ok (.goto (-43), 3) := by decide +kernel
theorem dX7_neededAt_51 : decode cX7_neededAt 51 = .ok (.iload_n 3, 1) := by decide +kernel
theorem dX7_neededAt_52 : decode cX7_neededAt 52 = .ok (.ireturn, 1) := by decide +kernel
theorem dX7_alone_0 : decode cX7_alone 0 = .ok (.iconst 0, 1) := by decide +kernel
theorem dX7_alone_1 : decode cX7_alone 1 = .ok (.istore_n 3, 1) := by decide +kernel
theorem dX7_alone_2 : decode cX7_alone 2 = .ok (.iconst 0, 1) := by decide +kernel
theorem dX7_alone_3 : decode cX7_alone 3 = .ok (.istore 4, 2) := by decide +kernel
theorem dX7_alone_5 : decode cX7_alone 5 = .ok (.iload 4, 2) := by decide +kernel
theorem dX7_alone_7 : decode cX7_alone 7 = .ok (.bipush 16, 2) := by decide +kernel
theorem dX7_alone_9 : decode cX7_alone 9 = .ok (.if_icmp .ge 31, 3) := by decide +kernel
theorem dX7_alone_12 : decode cX7_alone 12 = .ok (.iload_n 3, 1) := by decide +kernel
theorem dX7_alone_13 : decode cX7_alone 13 = .ok (.aload_n 0, 1) := by decide +kernel
theorem dX7_alone_14 : decode cX7_alone 14 = .ok (.lload_n 1, 1) := by decide +kernel
theorem dX7_alone_15 : decode cX7_alone 15 = .ok (.iload 4, 2) := by decide +kernel
theorem dX7_alone_17 : decode cX7_alone 17 = .ok (.invokevirtual 54, 3) := by decide +kernel
theorem dX7_alone_20 : decode cX7_alone 20 = .ok (.iconst 1, 1) := by decide +kernel
theorem dX7_alone_21 : decode cX7_alone 21 = .ok (.iload 4, 2) := by decide +kernel
theorem dX7_alone_23 : decode cX7_alone 23 = .ok (.ishl, 1) := by decide +kernel
theorem dX7_alone_24 : decode cX7_alone 24 = .ok (.if_icmp .ne 7, 3) := by decide +kernel
theorem dX7_alone_27 : decode cX7_alone 27 = .ok (.iconst 1, 1) := by decide +kernel
theorem dX7_alone_28 : decode cX7_alone 28 = .ok (.goto 4, 3) := by decide +kernel
theorem dX7_alone_31 : decode cX7_alone 31 = .ok (.iconst 0, 1) := by decide +kernel
theorem dX7_alone_32 : decode cX7_alone 32 = .ok (.iadd, 1) := by decide +kernel
theorem dX7_alone_33 : decode cX7_alone 33 = .ok (.istore_n 3, 1) := by decide +kernel
theorem dX7_alone_34 : decode cX7_alone 34 = .ok (.iinc 4 1, 3) := by decide +kernel
theorem dX7_alone_37 : decode cX7_alone 37 = .ok (.goto (-32), 3) := by decide +kernel
theorem dX7_alone_40 : decode cX7_alone 40 = .ok (.iload_n 3, 1) := by decide +kernel
theorem dX7_alone_41 : decode cX7_alone 41 = .ok (.ireturn, 1) := by decide +kernel
theorem dX7_moment_0 : decode cX7_moment 0 = .ok (.iload_n 1, 1) := by decide +kernel
theorem dX7_moment_1 : decode cX7_moment 1 = .ok (.invokestatic 40, 3) := by decide +kernel
theorem dX7_moment_4 : decode cX7_moment 4 = .ok (.ifCond .ne 5, 3) := by decide +kernel
theorem dX7_moment_7 : decode cX7_moment 7 = .ok (.iconst (-1), 1) := by decide +kernel
theorem dX7_moment_8 : decode cX7_moment 8 = .ok (.ireturn, 1) := by decide +kernel
theorem dX7_moment_9 : decode cX7_moment 9 = .ok (.aload_n 0, 1) := by decide +kernel
theorem dX7_moment_10 : decode cX7_moment 10 = .ok (.iload_n 1, 1) := by decide +kernel
theorem dX7_moment_11 : decode cX7_moment 11 = .ok (.invokevirtual 106, 3) := by decide +kernel
theorem dX7_moment_14 : decode cX7_moment 14 = .ok (.lstore_n 3, 1) := by decide +kernel
theorem dX7_moment_15 : decode cX7_moment 15 = .ok (.iload_n 2, 1) := by decide +kernel
theorem dX7_moment_16 : decode cX7_moment 16 = .ok (.tableswitch 83 0 5 #[40, 45, 51, 65, 71, 77], 40) := by decide +kernel
theorem dX7_moment_56 : decode cX7_moment 56 = .ok (.lload_n 3, 1) := by decide +kernel
theorem dX7_moment_57 : decode cX7_moment 57 = .ok (.invokestatic 110, 3) := by decide +kernel
theorem dX7_moment_60 : decode cX7_moment 60 = .ok (.ireturn, 1) := by decide +kernel
theorem dX7_moment_61 : decode cX7_moment 61 = .ok (.aload_n 0, 1) := by decide +kernel
theorem dX7_moment_62 : decode cX7_moment 62 = .ok (.lload_n 3, 1) := by decide +kernel
theorem dX7_moment_63 : decode cX7_moment 63 = .ok (.invokevirtual 79, 3) := by decide +kernel
theorem dX7_moment_66 : decode cX7_moment 66 = .ok (.ireturn, 1) := by decide +kernel
theorem dX7_moment_67 : decode cX7_moment 67 = .ok (.aload_n 0, 1) := by decide +kernel
theorem dX7_moment_68 : decode cX7_moment 68 = .ok (.lload_n 3, 1) := by decide +kernel
theorem dX7_moment_69 : decode cX7_moment 69 = .ok (.invokevirtual 159, 3) := by decide +kernel
theorem dX7_moment_72 : decode cX7_moment 72 = .ok (.ifCond .eq 7, 3) := by decide +kernel
theorem dX7_moment_75 : decode cX7_moment 75 = .ok (.iconst 1, 1) := by decide +kernel
theorem dX7_moment_76 : decode cX7_moment 76 = .ok (.goto 4, 3) := by decide +kernel
theorem dX7_moment_79 : decode cX7_moment 79 = .ok (.iconst 0, 1) := by decide +kernel
theorem dX7_moment_80 : decode cX7_moment 80 = .ok (.ireturn, 1) := by decide +kernel
theorem dX7_moment_81 : decode cX7_moment 81 = .ok (.aload_n 0, 1) := by decide +kernel
theorem dX7_moment_82 : decode cX7_moment 82 = .ok (.lload_n 3, 1) := by decide +kernel
theorem dX7_moment_83 : decode cX7_moment 83 = .ok (.invokevirtual 163, 3) := by decide +kernel
theorem dX7_moment_86 : decode cX7_moment 86 = .ok (.ireturn, 1) := by decide +kernel
theorem dX7_moment_87 : decode cX7_moment 87 = .ok (.aload_n 0, 1) := by decide +kernel
theorem dX7_moment_88 : decode cX7_moment 88 = .ok (.lload_n 3, 1) := by decide +kernel
theorem dX7_moment_89 : decode cX7_moment 89 = .ok (.invokevirtual 166, 3) := by decide +kernel
theorem dX7_moment_92 : decode cX7_moment 92 = .ok (.ireturn, 1) := by decide +kernel
theorem dX7_moment_93 : decode cX7_moment 93 = .ok (.aload_n 0, 1) := by decide +kernel
theorem dX7_moment_94 : decode cX7_moment 94 = .ok (.lload_n 3, 1) := by decide +kernel
theorem dX7_moment_95 : decode cX7_moment 95 = .ok (.invokevirtual 169, 3) := by decide +kernel
theorem dX7_moment_98 : decode cX7_moment 98 = .ok (.ireturn, 1) := by decide +kernel
theorem dX7_moment_99 : decode cX7_moment 99 = .ok (.bipush (-2), 2) := by decide +kernel
theorem dX7_moment_101 : decode cX7_moment 101 = .ok (.ireturn, 1) := by decide +kernel
theorem dX7_part_0 : decode cX7_part 0 = .ok (.iload_n 1, 1) := by decide +kernel
theorem dX7_part_1 : decode cX7_part 1 = .ok (.invokestatic 40, 3) := by decide +kernel
theorem dX7_part_4 : decode cX7_part 4 = .ok (.ifCond .eq 10, 3) := by decide +kernel
theorem dX7_part_7 : decode cX7_part 7 = .ok (.iload_n 2, 1) := by decide +kernel
theorem dX7_part_8 : decode cX7_part 8 = .ok (.invokestatic 83, 3) := by decide +kernel
theorem dX7_part_11 : decode cX7_part 11 = .ok (.ifCond .ne 5, 3) := by decide +kernel
theorem dX7_part_14 : decode cX7_part 14 = .ok (.iconst (-1), 1) := by decide +kernel
theorem dX7_part_15 : decode cX7_part 15 = .ok (.ireturn, 1) := by decide +kernel
theorem dX7_part_16 : decode cX7_part 16 = .ok (.aload_n 0, 1) := by decide +kernel
theorem dX7_part_17 : decode cX7_part 17 = .ok (.aload_n 0, 1) := by decide +kernel
theorem dX7_part_18 : decode cX7_part 18 = .ok (.iload_n 1, 1) := by decide +kernel
theorem dX7_part_19 : decode cX7_part 19 = .ok (.invokevirtual 106, 3) := by decide +kernel
theorem dX7_part_22 : decode cX7_part 22 = .ok (.iload_n 2, 1) := by decide +kernel
theorem dX7_part_23 : decode cX7_part 23 = .ok (.invokevirtual 54, 3) := by decide +kernel
theorem dX7_part_26 : decode cX7_part 26 = .ok (.istore 4, 2) := by decide +kernel
theorem dX7_part_28 : decode cX7_part 28 = .ok (.iload_n 3, 1) := by decide +kernel
theorem dX7_part_29 : decode cX7_part 29 = .ok (.ifCond .ne 18, 3) := by decide +kernel
theorem dX7_part_32 : decode cX7_part 32 = .ok (.iload 4, 2) := by decide +kernel
theorem dX7_part_34 : decode cX7_part 34 = .ok (.iload 4, 2) := by decide +kernel
theorem dX7_part_36 : decode cX7_part 36 = .ok (.ineg, 1) := by decide +kernel
theorem dX7_part_37 : decode cX7_part 37 = .ok (.iand, 1) := by decide +kernel
theorem dX7_part_38 : decode cX7_part 38 = .ok (.iconst 1, 1) := by decide +kernel
theorem dX7_part_39 : decode cX7_part 39 = .ok (.isub, 1) := by decide +kernel
theorem dX7_part_40 : decode cX7_part 40 = .ok (.i2l, 1) := by decide +kernel
theorem dX7_part_41 : decode cX7_part 41 = .ok (.invokestatic 110, 3) := by decide +kernel
theorem dX7_part_44 : decode cX7_part 44 = .ok (.goto 29, 3) := by decide +kernel
theorem dX7_part_47 : decode cX7_part 47 = .ok (.iload_n 3, 1) := by decide +kernel
theorem dX7_part_48 : decode cX7_part 48 = .ok (.iconst 1, 1) := by decide +kernel
theorem dX7_part_49 : decode cX7_part 49 = .ok (.if_icmp .ne 12, 3) := by decide +kernel
theorem dX7_part_52 : decode cX7_part 52 = .ok (.iload 4, 2) := by decide +kernel
theorem dX7_part_54 : decode cX7_part 54 = .ok (.i2l, 1) := by decide +kernel
theorem dX7_part_55 : decode cX7_part 55 = .ok (.invokestatic 110, 3) := by decide +kernel
theorem dX7_part_58 : decode cX7_part 58 = .ok (.goto 15, 3) := by decide +kernel
theorem dX7_part_61 : decode cX7_part 61 = .ok (.iload_n 3, 1) := by decide +kernel
theorem dX7_part_62 : decode cX7_part 62 = .ok (.iconst 2, 1) := by decide +kernel
theorem dX7_part_63 : decode cX7_part 63 = .ok (.if_icmp .ne 8, 3) := by decide +kernel
theorem dX7_part_66 : decode cX7_part 66 = .ok (.iload 4, 2) := by decide +kernel
theorem dX7_part_68 : decode cX7_part 68 = .ok (.goto 5, 3) := by decide +kernel
theorem dX7_part_71 : decode cX7_part 71 = .ok (.bipush (-2), 2) := by decide +kernel
theorem dX7_part_73 : decode cX7_part 73 = .ok (.ireturn, 1) := by decide +kernel
theorem dX7_needed_0 : decode cX7_needed 0 = .ok (.aload_n 0, 1) := by decide +kernel
theorem dX7_needed_1 : decode cX7_needed 1 = .ok (.iload_n 1, 1) := by decide +kernel
theorem dX7_needed_2 : decode cX7_needed 2 = .ok (.invokevirtual 99, 3) := by decide +kernel
theorem dX7_needed_5 : decode cX7_needed 5 = .ok (.ifCond .eq 10, 3) := by decide +kernel
theorem dX7_needed_8 : decode cX7_needed 8 = .ok (.iload_n 2, 1) := by decide +kernel
theorem dX7_needed_9 : decode cX7_needed 9 = .ok (.invokestatic 40, 3) := by decide +kernel
theorem dX7_needed_12 : decode cX7_needed 12 = .ok (.ifCond .ne 5, 3) := by decide +kernel
theorem dX7_needed_15 : decode cX7_needed 15 = .ok (.iconst (-1), 1) := by decide +kernel
theorem dX7_needed_16 : decode cX7_needed 16 = .ok (.ireturn, 1) := by decide +kernel
theorem dX7_needed_17 : decode cX7_needed 17 = .ok (.aload_n 0, 1) := by decide +kernel
theorem dX7_needed_18 : decode cX7_needed 18 = .ok (.iload_n 1, 1) := by decide +kernel
theorem dX7_needed_19 : decode cX7_needed 19 = .ok (.iload_n 2, 1) := by decide +kernel
theorem dX7_needed_20 : decode cX7_needed 20 = .ok (.invokevirtual 50, 3) := by decide +kernel
theorem dX7_needed_23 : decode cX7_needed 23 = .ok (.ifCond .ne 6, 3) := by decide +kernel
theorem dX7_needed_26 : decode cX7_needed 26 = .ok (.bipush (-5), 2) := by decide +kernel
theorem dX7_needed_28 : decode cX7_needed 28 = .ok (.ireturn, 1) := by decide +kernel
theorem dX7_needed_29 : decode cX7_needed 29 = .ok (.aload_n 0, 1) := by decide +kernel
theorem dX7_needed_30 : decode cX7_needed 30 = .ok (.aload_n 0, 1) := by decide +kernel
theorem dX7_needed_31 : decode cX7_needed 31 = .ok (.iload_n 2, 1) := by decide +kernel
theorem dX7_needed_32 : decode cX7_needed 32 = .ok (.invokevirtual 106, 3) := by decide +kernel
theorem dX7_needed_35 : decode cX7_needed 35 = .ok (.iload_n 1, 1) := by decide +kernel
theorem dX7_needed_36 : decode cX7_needed 36 = .ok (.invokevirtual 149, 3) := by decide +kernel
theorem dX7_needed_39 : decode cX7_needed 39 = .ok (.ifCond .eq 7, 3) := by decide +kernel
theorem dX7_needed_42 : decode cX7_needed 42 = .ok (.iconst 1, 1) := by decide +kernel
theorem dX7_needed_43 : decode cX7_needed 43 = .ok (.goto 4, 3) := by decide +kernel
theorem dX7_needed_46 : decode cX7_needed 46 = .ok (.iconst 0, 1) := by decide +kernel
theorem dX7_needed_47 : decode cX7_needed 47 = .ok (.ireturn, 1) := by decide +kernel
theorem dX7_together_0 : decode cX7_together 0 = .ok (.iload_n 1, 1) := by decide +kernel
theorem dX7_together_1 : decode cX7_together 1 = .ok (.invokestatic 83, 3) := by decide +kernel
theorem dX7_together_4 : decode cX7_together 4 = .ok (.ifCond .eq 10, 3) := by decide +kernel
theorem dX7_together_7 : decode cX7_together 7 = .ok (.iload_n 2, 1) := by decide +kernel
theorem dX7_together_8 : decode cX7_together 8 = .ok (.invokestatic 83, 3) := by decide +kernel
theorem dX7_together_11 : decode cX7_together 11 = .ok (.ifCond .ne 5, 3) := by decide +kernel
theorem dX7_together_14 : decode cX7_together 14 = .ok (.iconst (-1), 1) := by decide +kernel
theorem dX7_together_15 : decode cX7_together 15 = .ok (.ireturn, 1) := by decide +kernel
theorem dX7_together_16 : decode cX7_together 16 = .ok (.iconst 0, 1) := by decide +kernel
theorem dX7_together_17 : decode cX7_together 17 = .ok (.istore 4, 2) := by decide +kernel
theorem dX7_together_19 : decode cX7_together 19 = .ok (.bipush (-5), 2) := by decide +kernel
theorem dX7_together_21 : decode cX7_together 21 = .ok (.istore 5, 2) := by decide +kernel
theorem dX7_together_23 : decode cX7_together 23 = .ok (.bipush (-5), 2) := by decide +kernel
theorem dX7_together_25 : decode cX7_together 25 = .ok (.istore 6, 2) := by decide +kernel
theorem dX7_together_27 : decode cX7_together 27 = .ok (.iconst 0, 1) := by decide +kernel
theorem dX7_together_28 : decode cX7_together 28 = .ok (.istore 7, 2) := by decide +kernel
theorem dX7_together_30 : decode cX7_together 30 = .ok (.iconst 0, 1) := by decide +kernel
theorem dX7_together_31 : decode cX7_together 31 = .ok (.istore 8, 2) := by decide +kernel
theorem dX7_together_33 : decode cX7_together 33 = .ok (.bipush (-5), 2) := by decide +kernel
theorem dX7_together_35 : decode cX7_together 35 = .ok (.istore 9, 2) := by decide +kernel
theorem dX7_together_37 : decode cX7_together 37 = .ok (.iconst 0, 1) := by decide +kernel
theorem dX7_together_38 : decode cX7_together 38 = .ok (.istore 10, 2) := by decide +kernel
theorem dX7_together_40 : decode cX7_together 40 = .ok (.iload 10, 2) := by decide +kernel
theorem dX7_together_42 : decode cX7_together 42 = .ok (.bipush 64, 2) := by decide +kernel
theorem dX7_together_44 : decode cX7_together 44 = .ok (.if_icmp .ge 125, 3) := by decide +kernel
theorem dX7_together_47 : decode cX7_together 47 = .ok (.aload_n 0, 1) := by decide +kernel
theorem dX7_together_48 : decode cX7_together 48 = .ok (.aload_n 0, 1) := by decide +kernel
theorem dX7_together_49 : decode cX7_together 49 = .ok (.iload 10, 2) := by decide +kernel
theorem dX7_together_51 : decode cX7_together 51 = .ok (.invokevirtual 106, 3) := by decide +kernel
theorem dX7_together_54 : decode cX7_together 54 = .ok (.iload_n 1, 1) := by decide +kernel
theorem dX7_together_55 : decode cX7_together 55 = .ok (.iload_n 2, 1) := by decide +kernel
theorem dX7_together_56 : decode cX7_together 56 = .ok (.invokevirtual 60, 3) := by decide +kernel
theorem dX7_together_59 : decode cX7_together 59 = .ok (.istore 11, 2) := by decide +kernel
theorem dX7_together_61 : decode cX7_together 61 = .ok (.iload 11, 2) := by decide +kernel
theorem dX7_together_63 : decode cX7_together 63 = .ok (.ifCond .eq 10, 3) := by decide +kernel
theorem dX7_together_66 : decode cX7_together 66 = .ok (.iload 7, 2) := by decide +kernel
theorem dX7_together_68 : decode cX7_together 68 = .ok (.iconst 1, 1) := by decide +kernel
theorem dX7_together_69 : decode cX7_together 69 = .ok (.iadd, 1) := by decide +kernel
theorem dX7_together_70 : decode cX7_together 70 = .ok (.goto 4, 3) := by decide +kernel
theorem dX7_together_73 : decode cX7_together 73 = .ok (.iconst 0, 1) := by decide +kernel
theorem dX7_together_74 : decode cX7_together 74 = .ok (.istore 7, 2) := by decide +kernel
theorem dX7_together_76 : decode cX7_together 76 = .ok (.iload 4, 2) := by decide +kernel
theorem dX7_together_78 : decode cX7_together 78 = .ok (.iload 11, 2) := by decide +kernel
theorem dX7_together_80 : decode cX7_together 80 = .ok (.ifCond .eq 7, 3) := by decide +kernel
theorem dX7_together_83 : decode cX7_together 83 = .ok (.iconst 1, 1) := by decide +kernel
theorem dX7_together_84 : decode cX7_together 84 = .ok (.goto 4, 3) := by decide +kernel
theorem dX7_together_87 : decode cX7_together 87 = .ok (.iconst 0, 1) := by decide +kernel
theorem dX7_together_88 : decode cX7_together 88 = .ok (.iadd, 1) := by decide +kernel
theorem dX7_together_89 : decode cX7_together 89 = .ok (.istore 4, 2) := by decide +kernel
theorem dX7_together_91 : decode cX7_together 91 = .ok (.iload 11, 2) := by decide +kernel
theorem dX7_together_93 : decode cX7_together 93 = .ok (.ifCond .eq 15, 3) := by decide +kernel
theorem dX7_together_96 : decode cX7_together 96 = .ok (.iload 5, 2) := by decide +kernel
theorem dX7_together_98 : decode cX7_together 98 = .ok (.bipush (-5), 2) := by decide +kernel
theorem dX7_together_100 : decode cX7_together 100 = .ok (.if_icmp .ne 8, 3) := by decide +kernel
theorem dX7_together_103 : decode cX7_together 103 = .ok (.iload 10, 2) := by decide +kernel
theorem dX7_together_105 : decode cX7_together 105 = .ok (.goto 5, 3) := by decide +kernel
theorem dX7_together_108 : decode cX7_together 108 = .ok (.iload 5, 2) := by decide +kernel
theorem dX7_together_110 : decode cX7_together 110 = .ok (.istore 5, 2) := by decide +kernel
theorem dX7_together_112 : decode cX7_together 112 = .ok (.iload 11, 2) := by decide +kernel
theorem dX7_together_114 : decode cX7_together 114 = .ok (.ifCond .eq 8, 3) := by decide +kernel
theorem dX7_together_117 : decode cX7_together 117 = .ok (.iload 10, 2) := by decide +kernel
theorem dX7_together_119 : decode cX7_together 119 = .ok (.goto 5, 3) := by decide +kernel
theorem dX7_together_122 : decode cX7_together 122 = .ok (.iload 6, 2) := by decide +kernel
theorem dX7_together_124 : decode cX7_together 124 = .ok (.istore 6, 2) := by decide +kernel
theorem dX7_together_126 : decode cX7_together 126 = .ok (.iload 7, 2) := by decide +kernel
theorem dX7_together_128 : decode cX7_together 128 = .ok (.iload 8, 2) := by decide +kernel
theorem dX7_together_130 : decode cX7_together 130 = .ok (.if_icmp .le 13, 3) := by decide +kernel
theorem dX7_together_133 : decode cX7_together 133 = .ok (.iload 10, 2) := by decide +kernel
theorem dX7_together_135 : decode cX7_together 135 = .ok (.iload 7, 2) := by decide +kernel
theorem dX7_together_137 : decode cX7_together 137 = .ok (.isub, 1) := by decide +kernel
theorem dX7_together_138 : decode cX7_together 138 = .ok (.iconst 1, 1) := by decide +kernel
theorem dX7_together_139 : decode cX7_together 139 = .ok (.iadd, 1) := by decide +kernel
theorem dX7_together_140 : decode cX7_together 140 = .ok (.goto 5, 3) := by decide +kernel
theorem dX7_together_143 : decode cX7_together 143 = .ok (.iload 9, 2) := by decide +kernel
theorem dX7_together_145 : decode cX7_together 145 = .ok (.istore 9, 2) := by decide +kernel
theorem dX7_together_147 : decode cX7_together 147 = .ok (.iload 7, 2) := by decide +kernel
theorem dX7_together_149 : decode cX7_together 149 = .ok (.iload 8, 2) := by decide +kernel
theorem dX7_together_151 : decode cX7_together 151 = .ok (.if_icmp .le 8, 3) := by decide +kernel
theorem dX7_together_154 : decode cX7_together 154 = .ok (.iload 7, 2) := by decide +kernel
theorem dX7_together_156 : decode cX7_together 156 = .ok (.goto 5, 3) := by decide +kernel
theorem dX7_together_159 : decode cX7_together 159 = .ok (.iload 8, 2) := by decide +kernel
theorem dX7_together_161 : decode cX7_together 161 = .ok (.istore 8, 2) := by decide +kernel
theorem dX7_together_163 : decode cX7_together 163 = .ok (.iinc 10 1, 3) := by decide +kernel
theorem dX7_together_166 : decode cX7_together 166 = .ok (.goto (-126), 3) := by decide +kernel
theorem dX7_together_169 : decode cX7_together 169 = .ok (.iload_n 3, 1) := by decide +kernel
theorem dX7_together_170 : decode cX7_together 170 = .ok (.ifCond .ne 8, 3) := by decide +kernel
theorem dX7_together_173 : decode cX7_together 173 = .ok (.iload 4, 2) := by decide +kernel
theorem dX7_together_175 : decode cX7_together 175 = .ok (.goto 45, 3) := by decide +kernel
theorem dX7_together_178 : decode cX7_together 178 = .ok (.iload_n 3, 1) := by decide +kernel
theorem dX7_together_179 : decode cX7_together 179 = .ok (.iconst 1, 1) := by decide +kernel
theorem dX7_together_180 : decode cX7_together 180 = .ok (.if_icmp .ne 8, 3) := by decide +kernel
theorem dX7_together_183 : decode cX7_together 183 = .ok (.iload 5, 2) := by decide +kernel
theorem dX7_together_185 : decode cX7_together 185 = .ok (.goto 35, 3) := by decide +kernel
theorem dX7_together_188 : decode cX7_together 188 = .ok (.iload_n 3, 1) := by decide +kernel
theorem dX7_together_189 : decode cX7_together 189 = .ok (.iconst 2, 1) := by decide +kernel
theorem dX7_together_190 : decode cX7_together 190 = .ok (.if_icmp .ne 8, 3) := by decide +kernel
theorem dX7_together_193 : decode cX7_together 193 = .ok (.iload 6, 2) := by decide +kernel
theorem dX7_together_195 : decode cX7_together 195 = .ok (.goto 25, 3) := by decide +kernel
theorem dX7_together_198 : decode cX7_together 198 = .ok (.iload_n 3, 1) := by decide +kernel
theorem dX7_together_199 : decode cX7_together 199 = .ok (.iconst 3, 1) := by decide +kernel
theorem dX7_together_200 : decode cX7_together 200 = .ok (.if_icmp .ne 8, 3) := by decide +kernel
theorem dX7_together_203 : decode cX7_together 203 = .ok (.iload 8, 2) := by decide +kernel
theorem dX7_together_205 : decode cX7_together 205 = .ok (.goto 15, 3) := by decide +kernel
theorem dX7_together_208 : decode cX7_together 208 = .ok (.iload_n 3, 1) := by decide +kernel
theorem dX7_together_209 : decode cX7_together 209 = .ok (.iconst 4, 1) := by decide +kernel
theorem dX7_together_210 : decode cX7_together 210 = .ok (.if_icmp .ne 8, 3) := by decide +kernel
theorem dX7_together_213 : decode cX7_together 213 = .ok (.iload 9, 2) := by decide +kernel
theorem dX7_together_215 : decode cX7_together 215 = .ok (.goto 5, 3) := by decide +kernel
theorem dX7_together_218 : decode cX7_together 218 = .ok (.bipush (-2), 2) := by decide +kernel
theorem dX7_together_220 : decode cX7_together 220 = .ok (.ireturn, 1) := by decide +kernel
theorem dX7_odd_0 : decode cX7_odd 0 = .ok (.iload_n 1, 1) := by decide +kernel
theorem dX7_odd_1 : decode cX7_odd 1 = .ok (.invokestatic 40, 3) := by decide +kernel
theorem dX7_odd_4 : decode cX7_odd 4 = .ok (.ifCond .ne 5, 3) := by decide +kernel
theorem dX7_odd_7 : decode cX7_odd 7 = .ok (.iconst (-1), 1) := by decide +kernel
theorem dX7_odd_8 : decode cX7_odd 8 = .ok (.ireturn, 1) := by decide +kernel
theorem dX7_odd_9 : decode cX7_odd 9 = .ok (.iload_n 1, 1) := by decide +kernel
theorem dX7_odd_10 : decode cX7_odd 10 = .ok (.istore_n 2, 1) := by decide +kernel
theorem dX7_odd_11 : decode cX7_odd 11 = .ok (.iload_n 2, 1) := by decide +kernel
theorem dX7_odd_12 : decode cX7_odd 12 = .ok (.bipush 64, 2) := by decide +kernel
theorem dX7_odd_14 : decode cX7_odd 14 = .ok (.if_icmp .ge 23, 3) := by decide +kernel
theorem dX7_odd_17 : decode cX7_odd 17 = .ok (.aload_n 0, 1) := by decide +kernel
theorem dX7_odd_18 : decode cX7_odd 18 = .ok (.aload_n 0, 1) := by decide +kernel
theorem dX7_odd_19 : decode cX7_odd 19 = .ok (.iload_n 2, 1) := by decide +kernel
theorem dX7_odd_20 : decode cX7_odd 20 = .ok (.invokevirtual 106, 3) := by decide +kernel
theorem dX7_odd_23 : decode cX7_odd 23 = .ok (.invokevirtual 159, 3) := by decide +kernel
theorem dX7_odd_26 : decode cX7_odd 26 = .ok (.ifCond .eq 5, 3) := by decide +kernel
theorem dX7_odd_29 : decode cX7_odd 29 = .ok (.iload_n 2, 1) := by decide +kernel
theorem dX7_odd_30 : decode cX7_odd 30 = .ok (.ireturn, 1) := by decide +kernel
theorem dX7_odd_31 : decode cX7_odd 31 = .ok (.iinc 2 1, 3) := by decide +kernel
theorem dX7_odd_34 : decode cX7_odd 34 = .ok (.goto (-23), 3) := by decide +kernel
theorem dX7_odd_37 : decode cX7_odd 37 = .ok (.bipush (-5), 2) := by decide +kernel
theorem dX7_odd_39 : decode cX7_odd 39 = .ok (.ireturn, 1) := by decide +kernel
theorem dX7_span_0 : decode cX7_span 0 = .ok (.iload_n 1, 1) := by decide +kernel
theorem dX7_span_1 : decode cX7_span 1 = .ok (.invokestatic 40, 3) := by decide +kernel
theorem dX7_span_4 : decode cX7_span 4 = .ok (.ifCond .ne 5, 3) := by decide +kernel
theorem dX7_span_7 : decode cX7_span 7 = .ok (.iconst (-1), 1) := by decide +kernel
theorem dX7_span_8 : decode cX7_span 8 = .ok (.ireturn, 1) := by decide +kernel
theorem dX7_span_9 : decode cX7_span 9 = .ok (.iload_n 2, 1) := by decide +kernel
theorem dX7_span_10 : decode cX7_span 10 = .ok (.i2l, 1) := by decide +kernel
theorem dX7_span_11 : decode cX7_span 11 = .ok (.lconst 0, 1) := by decide +kernel
theorem dX7_span_12 : decode cX7_span 12 = .ok (.ldc2_w 172, 3) := by decide +kernel
theorem dX7_span_15 : decode cX7_span 15 = .ok (.invokestatic 34, 3) := by decide +kernel
theorem dX7_span_18 : decode cX7_span 18 = .ok (.ifCond .eq 15, 3) := by decide +kernel
theorem dX7_span_21 : decode cX7_span 21 = .ok (.iload_n 3, 1) := by decide +kernel
theorem dX7_span_22 : decode cX7_span 22 = .ok (.i2l, 1) := by decide +kernel
theorem dX7_span_23 : decode cX7_span 23 = .ok (.lconst 0, 1) := by decide +kernel
theorem dX7_span_24 : decode cX7_span 24 = .ok (.ldc2_w 174, 3) := by decide +kernel
theorem dX7_span_27 : decode cX7_span 27 = .ok (.invokestatic 34, 3) := by decide +kernel
theorem dX7_span_30 : decode cX7_span 30 = .ok (.ifCond .ne 6, 3) := by decide +kernel
theorem dX7_span_33 : decode cX7_span 33 = .ok (.bipush (-2), 2) := by decide +kernel
theorem dX7_span_35 : decode cX7_span 35 = .ok (.ireturn, 1) := by decide +kernel
theorem dX7_span_36 : decode cX7_span 36 = .ok (.iload_n 3, 1) := by decide +kernel
theorem dX7_span_37 : decode cX7_span 37 = .ok (.tableswitch 59 0 3 #[31, 37, 42, 52], 31) := by decide +kernel
theorem dX7_span_68 : decode cX7_span 68 = .ok (.iload_n 1, 1) := by decide +kernel
theorem dX7_span_69 : decode cX7_span 69 = .ok (.iload_n 2, 1) := by decide +kernel
theorem dX7_span_70 : decode cX7_span 70 = .ok (.invokestatic 68, 3) := by decide +kernel
theorem dX7_span_73 : decode cX7_span 73 = .ok (.ireturn, 1) := by decide +kernel
theorem dX7_span_74 : decode cX7_span 74 = .ok (.iload_n 2, 1) := by decide +kernel
theorem dX7_span_75 : decode cX7_span 75 = .ok (.invokestatic 64, 3) := by decide +kernel
theorem dX7_span_78 : decode cX7_span 78 = .ok (.ireturn, 1) := by decide +kernel
theorem dX7_span_79 : decode cX7_span 79 = .ok (.aload_n 0, 1) := by decide +kernel
theorem dX7_span_80 : decode cX7_span 80 = .ok (.iload_n 1, 1) := by decide +kernel
theorem dX7_span_81 : decode cX7_span 81 = .ok (.iload_n 2, 1) := by decide +kernel
theorem dX7_span_82 : decode cX7_span 82 = .ok (.invokevirtual 176, 3) := by decide +kernel
theorem dX7_span_85 : decode cX7_span 85 = .ok (.invokestatic 110, 3) := by decide +kernel
theorem dX7_span_88 : decode cX7_span 88 = .ok (.ireturn, 1) := by decide +kernel
theorem dX7_span_89 : decode cX7_span 89 = .ok (.aload_n 0, 1) := by decide +kernel
theorem dX7_span_90 : decode cX7_span 90 = .ok (.iload_n 1, 1) := by decide +kernel
theorem dX7_span_91 : decode cX7_span 91 = .ok (.iload_n 2, 1) := by decide +kernel
theorem dX7_span_92 : decode cX7_span 92 = .ok (.invokevirtual 179, 3) := by decide +kernel
theorem dX7_span_95 : decode cX7_span 95 = .ok (.ireturn, 1) := by decide +kernel
theorem dX7_span_96 : decode cX7_span 96 = .ok (.aload_n 0, 1) := by decide +kernel
theorem dX7_span_97 : decode cX7_span 97 = .ok (.iload_n 1, 1) := by decide +kernel
theorem dX7_span_98 : decode cX7_span 98 = .ok (.iload_n 2, 1) := by decide +kernel
theorem dX7_span_99 : decode cX7_span 99 = .ok (.invokevirtual 176, 3) := by decide +kernel
theorem dX7_span_102 : decode cX7_span 102 = .ok (.invokestatic 110, 3) := by decide +kernel
theorem dX7_span_105 : decode cX7_span 105 = .ok (.aload_n 0, 1) := by decide +kernel
theorem dX7_span_106 : decode cX7_span 106 = .ok (.iload_n 1, 1) := by decide +kernel
theorem dX7_span_107 : decode cX7_span 107 = .ok (.iload_n 2, 1) := by decide +kernel
theorem dX7_span_108 : decode cX7_span 108 = .ok (.invokevirtual 179, 3) := by decide +kernel
theorem dX7_span_111 : decode cX7_span 111 = .ok (.isub, 1) := by decide +kernel
theorem dX7_span_112 : decode cX7_span 112 = .ok (.ireturn, 1) := by decide +kernel
theorem dX7_ofSpans_0 : decode cX7_ofSpans 0 = .ok (.iconst 0, 1) := by decide +kernel
theorem dX7_ofSpans_1 : decode cX7_ofSpans 1 = .ok (.istore_n 2, 1) := by decide +kernel
theorem dX7_ofSpans_2 : decode cX7_ofSpans 2 = .ok (.iconst 0, 1) := by decide +kernel
theorem dX7_ofSpans_3 : decode cX7_ofSpans 3 = .ok (.istore_n 3, 1) := by decide +kernel
theorem dX7_ofSpans_4 : decode cX7_ofSpans 4 = .ok (.iconst 0, 1) := by decide +kernel
theorem dX7_ofSpans_5 : decode cX7_ofSpans 5 = .ok (.istore 4, 2) := by decide +kernel
theorem dX7_ofSpans_7 : decode cX7_ofSpans 7 = .ok (.iload 4, 2) := by decide +kernel
theorem dX7_ofSpans_9 : decode cX7_ofSpans 9 = .ok (.bipush 6, 2) := by decide +kernel
theorem dX7_ofSpans_11 : decode cX7_ofSpans 11 = .ok (.if_icmp .gt 57, 3) := by decide +kernel
theorem dX7_ofSpans_14 : decode cX7_ofSpans 14 = .ok (.iconst 0, 1) := by decide +kernel
theorem dX7_ofSpans_15 : decode cX7_ofSpans 15 = .ok (.istore 5, 2) := by decide +kernel
theorem dX7_ofSpans_17 : decode cX7_ofSpans 17 = .ok (.iload 5, 2) := by decide +kernel
theorem dX7_ofSpans_19 : decode cX7_ofSpans 19 = .ok (.bipush 64, 2) := by decide +kernel
theorem dX7_ofSpans_21 : decode cX7_ofSpans 21 = .ok (.if_icmp .ge 41, 3) := by decide +kernel
theorem dX7_ofSpans_24 : decode cX7_ofSpans 24 = .ok (.iload_n 2, 1) := by decide +kernel
theorem dX7_ofSpans_25 : decode cX7_ofSpans 25 = .ok (.aload_n 0, 1) := by decide +kernel
theorem dX7_ofSpans_26 : decode cX7_ofSpans 26 = .ok (.iload 5, 2) := by decide +kernel
theorem dX7_ofSpans_28 : decode cX7_ofSpans 28 = .ok (.iload 4, 2) := by decide +kernel
theorem dX7_ofSpans_30 : decode cX7_ofSpans 30 = .ok (.invokevirtual 179, 3) := by decide +kernel
theorem dX7_ofSpans_33 : decode cX7_ofSpans 33 = .ok (.iadd, 1) := by decide +kernel
theorem dX7_ofSpans_34 : decode cX7_ofSpans 34 = .ok (.istore_n 2, 1) := by decide +kernel
theorem dX7_ofSpans_35 : decode cX7_ofSpans 35 = .ok (.iload_n 3, 1) := by decide +kernel
theorem dX7_ofSpans_36 : decode cX7_ofSpans 36 = .ok (.aload_n 0, 1) := by decide +kernel
theorem dX7_ofSpans_37 : decode cX7_ofSpans 37 = .ok (.iload 5, 2) := by decide +kernel
theorem dX7_ofSpans_39 : decode cX7_ofSpans 39 = .ok (.iload 4, 2) := by decide +kernel
theorem dX7_ofSpans_41 : decode cX7_ofSpans 41 = .ok (.invokevirtual 176, 3) := by decide +kernel
theorem dX7_ofSpans_44 : decode cX7_ofSpans 44 = .ok (.invokestatic 110, 3) := by decide +kernel
theorem dX7_ofSpans_47 : decode cX7_ofSpans 47 = .ok (.iadd, 1) := by decide +kernel
theorem dX7_ofSpans_48 : decode cX7_ofSpans 48 = .ok (.istore_n 3, 1) := by decide +kernel
theorem dX7_ofSpans_49 : decode cX7_ofSpans 49 = .ok (.iload 5, 2) := by decide +kernel
theorem dX7_ofSpans_51 : decode cX7_ofSpans 51 = .ok (.iload 4, 2) := by decide +kernel
theorem dX7_ofSpans_53 : decode cX7_ofSpans 53 = .ok (.invokestatic 64, 3) := by decide +kernel
theorem dX7_ofSpans_56 : decode cX7_ofSpans 56 = .ok (.iadd, 1) := by decide +kernel
theorem dX7_ofSpans_57 : decode cX7_ofSpans 57 = .ok (.istore 5, 2) := by decide +kernel
theorem dX7_ofSpans_59 : decode cX7_ofSpans 59 = .ok (.goto (-42), 3) := by decide +kernel
theorem dX7_ofSpans_62 : decode cX7_ofSpans 62 = .ok (.iinc 4 1, 3) := by decide +kernel
theorem dX7_ofSpans_65 : decode cX7_ofSpans 65 = .ok (.goto (-58), 3) := by decide +kernel
theorem dX7_ofSpans_68 : decode cX7_ofSpans 68 = .ok (.iload_n 1, 1) := by decide +kernel
theorem dX7_ofSpans_69 : decode cX7_ofSpans 69 = .ok (.iconst 1, 1) := by decide +kernel
theorem dX7_ofSpans_70 : decode cX7_ofSpans 70 = .ok (.if_icmp .ne 7, 3) := by decide +kernel
theorem dX7_ofSpans_73 : decode cX7_ofSpans 73 = .ok (.iload_n 2, 1) := by decide +kernel
theorem dX7_ofSpans_74 : decode cX7_ofSpans 74 = .ok (.goto 6, 3) := by decide +kernel
theorem dX7_ofSpans_77 : decode cX7_ofSpans 77 = .ok (.iload_n 3, 1) := by decide +kernel
theorem dX7_ofSpans_78 : decode cX7_ofSpans 78 = .ok (.iload_n 2, 1) := by decide +kernel
theorem dX7_ofSpans_79 : decode cX7_ofSpans 79 = .ok (.isub, 1) := by decide +kernel
theorem dX7_ofSpans_80 : decode cX7_ofSpans 80 = .ok (.ireturn, 1) := by decide +kernel
theorem dX7_ofMoments_0 : decode cX7_ofMoments 0 = .ok (.iconst 0, 1) := by decide +kernel
theorem dX7_ofMoments_1 : decode cX7_ofMoments 1 = .ok (.istore_n 2, 1) := by decide +kernel
theorem dX7_ofMoments_2 : decode cX7_ofMoments 2 = .ok (.iconst 0, 1) := by decide +kernel
theorem dX7_ofMoments_3 : decode cX7_ofMoments 3 = .ok (.istore_n 3, 1) := by decide +kernel
theorem dX7_ofMoments_4 : decode cX7_ofMoments 4 = .ok (.bipush 16, 2) := by decide +kernel
theorem dX7_ofMoments_6 : decode cX7_ofMoments 6 = .ok (.istore 4, 2) := by decide +kernel
theorem dX7_ofMoments_8 : decode cX7_ofMoments 8 = .ok (.iconst 0, 1) := by decide +kernel
theorem dX7_ofMoments_9 : decode cX7_ofMoments 9 = .ok (.istore 5, 2) := by decide +kernel
theorem dX7_ofMoments_11 : decode cX7_ofMoments 11 = .ok (.iload 5, 2) := by decide +kernel
theorem dX7_ofMoments_13 : decode cX7_ofMoments 13 = .ok (.bipush 64, 2) := by decide +kernel
theorem dX7_ofMoments_15 : decode cX7_ofMoments 15 = .ok (.if_icmp .ge 71, 3) := by decide +kernel
theorem dX7_ofMoments_18 : decode cX7_ofMoments 18 = .ok (.aload_n 0, 1) := by decide +kernel
theorem dX7_ofMoments_19 : decode cX7_ofMoments 19 = .ok (.iload 5, 2) := by decide +kernel
theorem dX7_ofMoments_21 : decode cX7_ofMoments 21 = .ok (.invokevirtual 106, 3) := by decide +kernel
theorem dX7_ofMoments_24 : decode cX7_ofMoments 24 = .ok (.lstore 6, 2) := by decide +kernel
theorem dX7_ofMoments_26 : decode cX7_ofMoments 26 = .ok (.aload_n 0, 1) := by decide +kernel
theorem dX7_ofMoments_27 : decode cX7_ofMoments 27 = .ok (.lload 6, 2) := by decide +kernel
theorem dX7_ofMoments_29 : decode cX7_ofMoments 29 = .ok (.invokevirtual 79, 3) := by decide +kernel
theorem dX7_ofMoments_32 : decode cX7_ofMoments 32 = .ok (.istore 8, 2) := by decide +kernel
theorem dX7_ofMoments_34 : decode cX7_ofMoments 34 = .ok (.iload_n 2, 1) := by decide +kernel
theorem dX7_ofMoments_35 : decode cX7_ofMoments 35 = .ok (.aload_n 0, 1) := by decide +kernel
theorem dX7_ofMoments_36 : decode cX7_ofMoments 36 = .ok (.lload 6, 2) := by decide +kernel
theorem dX7_ofMoments_38 : decode cX7_ofMoments 38 = .ok (.invokevirtual 159, 3) := by decide +kernel
theorem dX7_ofMoments_41 : decode cX7_ofMoments 41 = .ok (.ifCond .eq 7, 3) := by decide +kernel
theorem dX7_ofMoments_44 : decode cX7_ofMoments 44 = .ok (.iconst 1, 1) := by decide +kernel
theorem dX7_ofMoments_45 : decode cX7_ofMoments 45 = .ok (.goto 4, 3) := by decide +kernel
theorem dX7_ofMoments_48 : decode cX7_ofMoments 48 = .ok (.iconst 0, 1) := by decide +kernel
theorem dX7_ofMoments_49 : decode cX7_ofMoments 49 = .ok (.iadd, 1) := by decide +kernel
theorem dX7_ofMoments_50 : decode cX7_ofMoments 50 = .ok (.istore_n 2, 1) := by decide +kernel
theorem dX7_ofMoments_51 : decode cX7_ofMoments 51 = .ok (.iload 8, 2) := by decide +kernel
theorem dX7_ofMoments_53 : decode cX7_ofMoments 53 = .ok (.iload_n 3, 1) := by decide +kernel
theorem dX7_ofMoments_54 : decode cX7_ofMoments 54 = .ok (.if_icmp .le 8, 3) := by decide +kernel
theorem dX7_ofMoments_57 : decode cX7_ofMoments 57 = .ok (.iload 8, 2) := by decide +kernel
theorem dX7_ofMoments_59 : decode cX7_ofMoments 59 = .ok (.goto 4, 3) := by decide +kernel
theorem dX7_ofMoments_62 : decode cX7_ofMoments 62 = .ok (.iload_n 3, 1) := by decide +kernel
theorem dX7_ofMoments_63 : decode cX7_ofMoments 63 = .ok (.istore_n 3, 1) := by decide +kernel
theorem dX7_ofMoments_64 : decode cX7_ofMoments 64 = .ok (.iload 8, 2) := by decide +kernel
theorem dX7_ofMoments_66 : decode cX7_ofMoments 66 = .ok (.iload 4, 2) := by decide +kernel
theorem dX7_ofMoments_68 : decode cX7_ofMoments 68 = .ok (.if_icmp .ge 8, 3) := by decide +kernel
theorem dX7_ofMoments_71 : decode cX7_ofMoments 71 = .ok (.iload 8, 2) := by decide +kernel
theorem dX7_ofMoments_73 : decode cX7_ofMoments 73 = .ok (.goto 5, 3) := by decide +kernel
theorem dX7_ofMoments_76 : decode cX7_ofMoments 76 = .ok (.iload 4, 2) := by decide +kernel
theorem dX7_ofMoments_78 : decode cX7_ofMoments 78 = .ok (.istore 4, 2) := by decide +kernel
theorem dX7_ofMoments_80 : decode cX7_ofMoments 80 = .ok (.iinc 5 1, 3) := by decide +kernel
theorem dX7_ofMoments_83 : decode cX7_ofMoments 83 = .ok (.goto (-72), 3) := by decide +kernel
theorem dX7_ofMoments_86 : decode cX7_ofMoments 86 = .ok (.iload_n 1, 1) := by decide +kernel
theorem dX7_ofMoments_87 : decode cX7_ofMoments 87 = .ok (.iconst 4, 1) := by decide +kernel
theorem dX7_ofMoments_88 : decode cX7_ofMoments 88 = .ok (.if_icmp .ne 7, 3) := by decide +kernel
theorem dX7_ofMoments_91 : decode cX7_ofMoments 91 = .ok (.iload_n 2, 1) := by decide +kernel
theorem dX7_ofMoments_92 : decode cX7_ofMoments 92 = .ok (.goto 14, 3) := by decide +kernel
theorem dX7_ofMoments_95 : decode cX7_ofMoments 95 = .ok (.iload_n 1, 1) := by decide +kernel
theorem dX7_ofMoments_96 : decode cX7_ofMoments 96 = .ok (.iconst 5, 1) := by decide +kernel
theorem dX7_ofMoments_97 : decode cX7_ofMoments 97 = .ok (.if_icmp .ne 7, 3) := by decide +kernel
theorem dX7_ofMoments_100 : decode cX7_ofMoments 100 = .ok (.iload_n 3, 1) := by decide +kernel
theorem dX7_ofMoments_101 : decode cX7_ofMoments 101 = .ok (.goto 5, 3) := by decide +kernel
theorem dX7_ofMoments_104 : decode cX7_ofMoments 104 = .ok (.iload 4, 2) := by decide +kernel
theorem dX7_ofMoments_106 : decode cX7_ofMoments 106 = .ok (.ireturn, 1) := by decide +kernel
theorem dX7_count_0 : decode cX7_count 0 = .ok (.iload_n 1, 1) := by decide +kernel
theorem dX7_count_1 : decode cX7_count 1 = .ok (.tableswitch 90 0 8 #[51, 58, 58, 64, 74, 74, 74, 80, 85], 51) := by decide +kernel
theorem dX7_count_52 : decode cX7_count 52 = .ok (.aload_n 0, 1) := by decide +kernel
theorem dX7_count_53 : decode cX7_count 53 = .ok (.getfield 7, 3) := by decide +kernel
theorem dX7_count_56 : decode cX7_count 56 = .ok (.iconst 0, 1) := by decide +kernel
theorem dX7_count_57 : decode cX7_count 57 = .ok (.iaload, 1) := by decide +kernel
theorem dX7_count_58 : decode cX7_count 58 = .ok (.ireturn, 1) := by decide +kernel
theorem dX7_count_59 : decode cX7_count 59 = .ok (.aload_n 0, 1) := by decide +kernel
theorem dX7_count_60 : decode cX7_count 60 = .ok (.iload_n 1, 1) := by decide +kernel
theorem dX7_count_61 : decode cX7_count 61 = .ok (.invokevirtual 182, 3) := by decide +kernel
theorem dX7_count_64 : decode cX7_count 64 = .ok (.ireturn, 1) := by decide +kernel
theorem dX7_count_65 : decode cX7_count 65 = .ok (.bipush 16, 2) := by decide +kernel
theorem dX7_count_67 : decode cX7_count 67 = .ok (.aload_n 0, 1) := by decide +kernel
theorem dX7_count_68 : decode cX7_count 68 = .ok (.bipush 6, 2) := by decide +kernel
theorem dX7_count_70 : decode cX7_count 70 = .ok (.invokevirtual 185, 3) := by decide +kernel
theorem dX7_count_73 : decode cX7_count 73 = .ok (.isub, 1) := by decide +kernel
theorem dX7_count_74 : decode cX7_count 74 = .ok (.ireturn, 1) := by decide +kernel
theorem dX7_count_75 : decode cX7_count 75 = .ok (.aload_n 0, 1) := by decide +kernel
theorem dX7_count_76 : decode cX7_count 76 = .ok (.iload_n 1, 1) := by decide +kernel
theorem dX7_count_77 : decode cX7_count 77 = .ok (.invokevirtual 185, 3) := by decide +kernel
theorem dX7_count_80 : decode cX7_count 80 = .ok (.ireturn, 1) := by decide +kernel
theorem dX7_count_81 : decode cX7_count 81 = .ok (.aload_n 0, 1) := by decide +kernel
theorem dX7_count_82 : decode cX7_count 82 = .ok (.getfield 28, 3) := by decide +kernel
theorem dX7_count_85 : decode cX7_count 85 = .ok (.ireturn, 1) := by decide +kernel
theorem dX7_count_86 : decode cX7_count 86 = .ok (.aload_n 0, 1) := by decide +kernel
theorem dX7_count_87 : decode cX7_count 87 = .ok (.getfield 113, 3) := by decide +kernel
theorem dX7_count_90 : decode cX7_count 90 = .ok (.ireturn, 1) := by decide +kernel
theorem dX7_count_91 : decode cX7_count 91 = .ok (.bipush (-2), 2) := by decide +kernel
theorem dX7_count_93 : decode cX7_count 93 = .ok (.ireturn, 1) := by decide +kernel
