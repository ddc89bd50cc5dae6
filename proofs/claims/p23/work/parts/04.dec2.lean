theorem dX6_init_0 : decode cX6_init 0 = .ok (.aload_n 0, 1) := by decide +kernel
theorem dX6_init_1 : decode cX6_init 1 = .ok (.invokespecial 1, 3) := by decide +kernel
theorem dX6_init_4 : decode cX6_init 4 = .ok (.aload_n 0, 1) := by decide +kernel
theorem dX6_init_5 : decode cX6_init 5 = .ok (.new 7, 3) := by decide +kernel
theorem dX6_init_8 : decode cX6_init 8 = .ok (.dup, 1) := by decide +kernel
theorem dX6_init_9 : decode cX6_init 9 = .ok (.invokespecial 9, 3) := by decide +kernel
theorem dX6_init_12 : decode cX6_init 12 = .ok (.putfield 10, 3) := by decide +kernel
theorem dX6_init_15 : decode cX6_init 15 = .ok (.aload_n 0, 1) := by decide +kernel
theorem dX6_init_16 : decode cX6_init 16 = .ok (.new 7, 3) := by decide +kernel
theorem dX6_init_19 : decode cX6_init 19 = .ok (.dup, 1) := by decide +kernel
theorem dX6_init_20 : decode cX6_init 20 = .ok (.invokespecial 9, 3) := by decide +kernel
theorem dX6_init_23 : decode cX6_init 23 = .ok (.putfield 16, 3) := by decide +kernel
theorem dX6_init_26 : decode cX6_init 26 = .ok (.aload_n 0, 1) := by decide +kernel
theorem dX6_init_27 : decode cX6_init 27 = .ok (.iconst 0, 1) := by decide +kernel
theorem dX6_init_28 : decode cX6_init 28 = .ok (.putfield 19, 3) := by decide +kernel
theorem dX6_init_31 : decode cX6_init 31 = .ok (.aload_n 0, 1) := by decide +kernel
theorem dX6_init_32 : decode cX6_init 32 = .ok (.new 23, 3) := by decide +kernel
theorem dX6_init_35 : decode cX6_init 35 = .ok (.dup, 1) := by decide +kernel
theorem dX6_init_36 : decode cX6_init 36 = .ok (.invokespecial 25, 3) := by decide +kernel
theorem dX6_init_39 : decode cX6_init 39 = .ok (.putfield 26, 3) := by decide +kernel
theorem dX6_init_42 : decode cX6_init 42 = .ok (.aload_n 0, 1) := by decide +kernel
theorem dX6_init_43 : decode cX6_init 43 = .ok (.new 30, 3) := by decide +kernel
theorem dX6_init_46 : decode cX6_init 46 = .ok (.dup, 1) := by decide +kernel
theorem dX6_init_47 : decode cX6_init 47 = .ok (.invokespecial 32, 3) := by decide +kernel
theorem dX6_init_50 : decode cX6_init 50 = .ok (.putfield 33, 3) := by decide +kernel
theorem dX6_init_53 : decode cX6_init 53 = .ok (.aload_n 0, 1) := by decide +kernel
theorem dX6_init_54 : decode cX6_init 54 = .ok (.new 7, 3) := by decide +kernel
theorem dX6_init_57 : decode cX6_init 57 = .ok (.dup, 1) := by decide +kernel
theorem dX6_init_58 : decode cX6_init 58 = .ok (.invokespecial 9, 3) := by decide +kernel
theorem dX6_init_61 : decode cX6_init 61 = .ok (.putfield 37, 3) := by decide +kernel
theorem dX6_init_64 : decode cX6_init 64 = .ok (.aload_n 0, 1) := by decide +kernel
theorem dX6_init_65 : decode cX6_init 65 = .ok (.new 40, 3) := by decide +kernel
theorem dX6_init_68 : decode cX6_init 68 = .ok (.dup, 1) := by decide +kernel
theorem dX6_init_69 : decode cX6_init 69 = .ok (.invokespecial 42, 3) := by decide +kernel
theorem dX6_init_72 : decode cX6_init 72 = .ok (.putfield 43, 3) := by decide +kernel
theorem dX6_init_75 : decode cX6_init 75 = .ok (.aload_n 0, 1) := by decide +kernel
theorem dX6_init_76 : decode cX6_init 76 = .ok (.new 47, 3) := by decide +kernel
theorem dX6_init_79 : decode cX6_init 79 = .ok (.dup, 1) := by decide +kernel
theorem dX6_init_80 : decode cX6_init 80 = .ok (.invokespecial 49, 3) := by decide +kernel
theorem dX6_init_83 : decode cX6_init 83 = .ok (.putfield 50, 3) := by decide +kernel
theorem dX6_init_86 : decode cX6_init 86 = .ok (.aload_n 0, 1) := by decide +kernel
theorem dX6_init_87 : decode cX6_init 87 = .ok (.new 54, 3) := by decide +kernel
theorem dX6_init_90 : decode cX6_init 90 = .ok (.dup, 1) := by decide +kernel
theorem dX6_init_91 : decode cX6_init 91 = .ok (.invokespecial 56, 3) := by decide +kernel
theorem dX6_init_94 : decode cX6_init 94 = .ok (.putfield 57, 3) := by decide +kernel
theorem dX6_init_97 : decode cX6_init 97 = .ok (.return_, 1) := by decide +kernel
theorem dX6_addLink_0 : decode cX6_addLink 0 = .ok (.iload_n 1, 1) := by decide +kernel
theorem dX6_addLink_1 : decode cX6_addLink 1 = .ok (.invokestatic 61, 3) := by decide +kernel
theorem dX6_addLink_4 : decode cX6_addLink 4 = .ok (.ifCond .eq 10, 3) := by decide +kernel
theorem dX6_addLink_7 : decode cX6_addLink 7 = .ok (.iload_n 2, 1) := by decide +kernel
theorem dX6_addLink_8 : decode cX6_addLink 8 = .ok (.invokestatic 61, 3) := by decide +kernel
theorem dX6_addLink_11 : decode cX6_addLink 11 = .ok (.ifCond .ne 5, 3) := by decide +kernel
theorem dX6_addLink_14 : decode cX6_addLink 14 = .ok (.iconst (-1), 1) := by decide +kernel
theorem dX6_addLink_15 : decode cX6_addLink 15 = .ok (.ireturn, 1) := by decide +kernel
theorem dX6_addLink_16 : decode cX6_addLink 16 = .ok (.iload_n 3, 1) := by decide +kernel
theorem dX6_addLink_17 : decode cX6_addLink 17 = .ok (.iload 4, 2) := by decide +kernel
theorem dX6_addLink_19 : decode cX6_addLink 19 = .ok (.invokestatic 65, 3) := by decide +kernel
theorem dX6_addLink_22 : decode cX6_addLink 22 = .ok (.ifCond .eq 8, 3) := by decide +kernel
theorem dX6_addLink_25 : decode cX6_addLink 25 = .ok (.iload_n 1, 1) := by decide +kernel
theorem dX6_addLink_26 : decode cX6_addLink 26 = .ok (.iload_n 2, 1) := by decide +kernel
theorem dX6_addLink_27 : decode cX6_addLink 27 = .ok (.if_icmp .ne 6, 3) := by decide +kernel
theorem dX6_addLink_30 : decode cX6_addLink 30 = .ok (.bipush (-2), 2) := by decide +kernel
theorem dX6_addLink_32 : decode cX6_addLink 32 = .ok (.ireturn, 1) := by decide +kernel
theorem dX6_addLink_33 : decode cX6_addLink 33 = .ok (.aload_n 0, 1) := by decide +kernel
theorem dX6_addLink_34 : decode cX6_addLink 34 = .ok (.getfield 10, 3) := by decide +kernel
theorem dX6_addLink_37 : decode cX6_addLink 37 = .ok (.invokevirtual 69, 3) := by decide +kernel
theorem dX6_addLink_40 : decode cX6_addLink 40 = .ok (.iconst 1, 1) := by decide +kernel
theorem dX6_addLink_41 : decode cX6_addLink 41 = .ok (.if_icmp .ge 6, 3) := by decide +kernel
theorem dX6_addLink_44 : decode cX6_addLink 44 = .ok (.bipush (-3), 2) := by decide +kernel
theorem dX6_addLink_46 : decode cX6_addLink 46 = .ok (.ireturn, 1) := by decide +kernel
theorem dX6_addLink_47 : decode cX6_addLink 47 = .ok (.aload_n 0, 1) := by decide +kernel
theorem dX6_addLink_48 : decode cX6_addLink 48 = .ok (.getfield 26, 3) := by decide +kernel
theorem dX6_addLink_51 : decode cX6_addLink 51 = .ok (.aload_n 0, 1) := by decide +kernel
theorem dX6_addLink_52 : decode cX6_addLink 52 = .ok (.getfield 10, 3) := by decide +kernel
theorem dX6_addLink_55 : decode cX6_addLink 55 = .ok (.invokevirtual 73, 3) := by decide +kernel
theorem dX6_addLink_58 : decode cX6_addLink 58 = .ok (.aload_n 0, 1) := by decide +kernel
theorem dX6_addLink_59 : decode cX6_addLink 59 = .ok (.getfield 10, 3) := by decide +kernel
theorem dX6_addLink_62 : decode cX6_addLink 62 = .ok (.iload_n 1, 1) := by decide +kernel
theorem dX6_addLink_63 : decode cX6_addLink 63 = .ok (.iload_n 2, 1) := by decide +kernel
theorem dX6_addLink_64 : decode cX6_addLink 64 = .ok (.iload_n 3, 1) := by decide +kernel
theorem dX6_addLink_65 : decode cX6_addLink 65 = .ok (.iload 4, 2) := by decide +kernel
theorem dX6_addLink_67 : decode cX6_addLink 67 = .ok (.invokevirtual 77, 3) := by decide +kernel
theorem dX6_addLink_70 : decode cX6_addLink 70 = .ok (.aload_n 0, 1) := by decide +kernel
theorem dX6_addLink_71 : decode cX6_addLink 71 = .ok (.getfield 10, 3) := by decide +kernel
theorem dX6_addLink_74 : decode cX6_addLink 74 = .ok (.invokevirtual 81, 3) := by decide +kernel
theorem dX6_addLink_77 : decode cX6_addLink 77 = .ok (.iconst 1, 1) := by decide +kernel
theorem dX6_addLink_78 : decode cX6_addLink 78 = .ok (.isub, 1) := by decide +kernel
theorem dX6_addLink_79 : decode cX6_addLink 79 = .ok (.ireturn, 1) := by decide +kernel
theorem dX6_removeLink_0 : decode cX6_removeLink 0 = .ok (.aload_n 0, 1) := by decide +kernel
theorem dX6_removeLink_1 : decode cX6_removeLink 1 = .ok (.getfield 10, 3) := by decide +kernel
theorem dX6_removeLink_4 : decode cX6_removeLink 4 = .ok (.iload_n 1, 1) := by decide +kernel
theorem dX6_removeLink_5 : decode cX6_removeLink 5 = .ok (.invokevirtual 84, 3) := by decide +kernel
theorem dX6_removeLink_8 : decode cX6_removeLink 8 = .ok (.ifCond .ne 5, 3) := by decide +kernel
theorem dX6_removeLink_11 : decode cX6_removeLink 11 = .ok (.iconst (-1), 1) := by decide +kernel
theorem dX6_removeLink_12 : decode cX6_removeLink 12 = .ok (.ireturn, 1) := by decide +kernel
theorem dX6_removeLink_13 : decode cX6_removeLink 13 = .ok (.aload_n 0, 1) := by decide +kernel
theorem dX6_removeLink_14 : decode cX6_removeLink 14 = .ok (.getfield 26, 3) := by decide +kernel
theorem dX6_removeLink_17 : decode cX6_removeLink 17 = .ok (.aload_n 0, 1) := by decide +kernel
theorem dX6_removeLink_18 : decode cX6_removeLink 18 = .ok (.getfield 10, 3) := by decide +kernel
theorem dX6_removeLink_21 : decode cX6_removeLink 21 = .ok (.invokevirtual 73, 3) := by decide +kernel
theorem dX6_removeLink_24 : decode cX6_removeLink 24 = .ok (.aload_n 0, 1) := by decide +kernel
theorem dX6_removeLink_25 : decode cX6_removeLink 25 = .ok (.getfield 10, 3) := by decide +kernel
theorem dX6_removeLink_28 : decode cX6_removeLink 28 = .ok (.iload_n 1, 1) := by decide +kernel
theorem dX6_removeLink_29 : decode cX6_removeLink 29 = .ok (.invokevirtual 87, 3) := by decide +kernel
theorem dX6_removeLink_32 : decode cX6_removeLink 32 = .ok (.aload_n 0, 1) := by decide +kernel
theorem dX6_removeLink_33 : decode cX6_removeLink 33 = .ok (.getfield 10, 3) := by decide +kernel
theorem dX6_removeLink_36 : decode cX6_removeLink 36 = .ok (.invokevirtual 81, 3) := by decide +kernel
theorem dX6_removeLink_39 : decode cX6_removeLink 39 = .ok (.ireturn, 1) := by decide +kernel
theorem dX6_setLife_0 : decode cX6_setLife 0 = .ok (.aload_n 0, 1) := by decide +kernel
theorem dX6_setLife_1 : decode cX6_setLife 1 = .ok (.getfield 10, 3) := by decide +kernel
theorem dX6_setLife_4 : decode cX6_setLife 4 = .ok (.iload_n 1, 1) := by decide +kernel
theorem dX6_setLife_5 : decode cX6_setLife 5 = .ok (.invokevirtual 84, 3) := by decide +kernel
theorem dX6_setLife_8 : decode cX6_setLife 8 = .ok (.ifCond .ne 5, 3) := by decide +kernel
theorem dX6_setLife_11 : decode cX6_setLife 11 = .ok (.iconst (-1), 1) := by decide +kernel
theorem dX6_setLife_12 : decode cX6_setLife 12 = .ok (.ireturn, 1) := by decide +kernel
theorem dX6_setLife_13 : decode cX6_setLife 13 = .ok (.iload_n 2, 1) := by decide +kernel
theorem dX6_setLife_14 : decode cX6_setLife 14 = .ok (.iload_n 3, 1) := by decide +kernel
theorem dX6_setLife_15 : decode cX6_setLife 15 = .ok (.invokestatic 65, 3) := by decide +kernel
theorem dX6_setLife_18 : decode cX6_setLife 18 = .ok (.ifCond .ne 6, 3) := by decide +kernel
theorem dX6_setLife_21 : decode cX6_setLife 21 = .ok (.bipush (-2), 2) := by decide +kernel
theorem dX6_setLife_23 : decode cX6_setLife 23 = .ok (.ireturn, 1) := by decide +kernel
theorem dX6_setLife_24 : decode cX6_setLife 24 = .ok (.aload_n 0, 1) := by decide +kernel
theorem dX6_setLife_25 : decode cX6_setLife 25 = .ok (.getfield 10, 3) := by decide +kernel
theorem dX6_setLife_28 : decode cX6_setLife 28 = .ok (.iload_n 1, 1) := by decide +kernel
theorem dX6_setLife_29 : decode cX6_setLife 29 = .ok (.invokevirtual 91, 3) := by decide +kernel
theorem dX6_setLife_32 : decode cX6_setLife 32 = .ok (.iload_n 2, 1) := by decide +kernel
theorem dX6_setLife_33 : decode cX6_setLife 33 = .ok (.if_icmp .ne 18, 3) := by decide +kernel
theorem dX6_setLife_36 : decode cX6_setLife 36 = .ok (.aload_n 0, 1) := by decide +kernel
theorem dX6_setLife_37 : decode cX6_setLife 37 = .ok (.getfield 10, 3) := by decide +kernel
theorem dX6_setLife_40 : decode cX6_setLife 40 = .ok (.iload_n 1, 1) := by decide +kernel
theorem dX6_setLife_41 : decode cX6_setLife 41 = .ok (.invokevirtual 95, 3) := by decide +kernel
theorem dX6_setLife_44 : decode cX6_setLife 44 = .ok (.iload_n 3, 1) := by decide +kernel
theorem dX6_setLife_45 : decode cX6_setLife 45 = .ok (.if_icmp .ne 6, 3) := by decide +kernel
theorem dX6_setLife_48 : decode cX6_setLife 48 = .ok (.bipush (-5), 2) := by decide +kernel
theorem dX6_setLife_50 : decode cX6_setLife 50 = .ok (.ireturn, 1) := by decide +kernel
theorem dX6_setLife_51 : decode cX6_setLife 51 = .ok (.aload_n 0, 1) := by decide +kernel
theorem dX6_setLife_52 : decode cX6_setLife 52 = .ok (.getfield 26, 3) := by decide +kernel
theorem dX6_setLife_55 : decode cX6_setLife 55 = .ok (.aload_n 0, 1) := by decide +kernel
theorem dX6_setLife_56 : decode cX6_setLife 56 = .ok (.getfield 10, 3) := by decide +kernel
theorem dX6_setLife_59 : decode cX6_setLife 59 = .ok (.invokevirtual 73, 3) := by decide +kernel
theorem dX6_setLife_62 : decode cX6_setLife 62 = .ok (.aload_n 0, 1) := by decide +kernel
theorem dX6_setLife_63 : decode cX6_setLife 63 = .ok (.getfield 10, 3) := by decide +kernel
theorem dX6_setLife_66 : decode cX6_setLife 66 = .ok (.iload_n 1, 1) := by decide +kernel
theorem dX6_setLife_67 : decode cX6_setLife 67 = .ok (.iload_n 2, 1) := by decide +kernel
theorem dX6_setLife_68 : decode cX6_setLife 68 = .ok (.iload_n 3, 1) := by decide +kernel
theorem dX6_setLife_69 : decode cX6_setLife 69 = .ok (.invokevirtual 98, 3) := by decide +kernel
theorem dX6_setLife_72 : decode cX6_setLife 72 = .ok (.iload_n 3, 1) := by decide +kernel
theorem dX6_setLife_73 : decode cX6_setLife 73 = .ok (.iload_n 2, 1) := by decide +kernel
theorem dX6_setLife_74 : decode cX6_setLife 74 = .ok (.isub, 1) := by decide +kernel
theorem dX6_setLife_75 : decode cX6_setLife 75 = .ok (.ireturn, 1) := by decide +kernel
theorem dX6_clear_0 : decode cX6_clear 0 = .ok (.iload_n 1, 1) := by decide +kernel
theorem dX6_clear_1 : decode cX6_clear 1 = .ok (.invokestatic 102, 3) := by decide +kernel
theorem dX6_clear_4 : decode cX6_clear 4 = .ok (.ifCond .ne 5, 3) := by decide +kernel
theorem dX6_clear_7 : decode cX6_clear 7 = .ok (.iconst (-1), 1) := by decide +kernel
theorem dX6_clear_8 : decode cX6_clear 8 = .ok (.ireturn, 1) := by decide +kernel
theorem dX6_clear_9 : decode cX6_clear 9 = .ok (.aload_n 0, 1) := by decide +kernel
theorem dX6_clear_10 : decode cX6_clear 10 = .ok (.getfield 10, 3) := by decide +kernel
theorem dX6_clear_13 : decode cX6_clear 13 = .ok (.iload_n 1, 1) := by decide +kernel
theorem dX6_clear_14 : decode cX6_clear 14 = .ok (.invokevirtual 121, 3) := by decide +kernel
theorem dX6_clear_17 : decode cX6_clear 17 = .ok (.istore_n 2, 1) := by decide +kernel
theorem dX6_clear_18 : decode cX6_clear 18 = .ok (.iload_n 2, 1) := by decide +kernel
theorem dX6_clear_19 : decode cX6_clear 19 = .ok (.ifCond .ne 6, 3) := by decide +kernel
theorem dX6_clear_22 : decode cX6_clear 22 = .ok (.bipush (-5), 2) := by decide +kernel
theorem dX6_clear_24 : decode cX6_clear 24 = .ok (.ireturn, 1) := by decide +kernel
theorem dX6_clear_25 : decode cX6_clear 25 = .ok (.aload_n 0, 1) := by decide +kernel
theorem dX6_clear_26 : decode cX6_clear 26 = .ok (.getfield 26, 3) := by decide +kernel
theorem dX6_clear_29 : decode cX6_clear 29 = .ok (.aload_n 0, 1) := by decide +kernel
theorem dX6_clear_30 : decode cX6_clear 30 = .ok (.getfield 10, 3) := by decide +kernel
theorem dX6_clear_33 : decode cX6_clear 33 = .ok (.invokevirtual 73, 3) := by decide +kernel
theorem dX6_clear_36 : decode cX6_clear 36 = .ok (.aload_n 0, 1) := by decide +kernel
theorem dX6_clear_37 : decode cX6_clear 37 = .ok (.getfield 10, 3) := by decide +kernel
theorem dX6_clear_40 : decode cX6_clear 40 = .ok (.iload_n 1, 1) := by decide +kernel
theorem dX6_clear_41 : decode cX6_clear 41 = .ok (.invokevirtual 124, 3) := by decide +kernel
theorem dX6_clear_44 : decode cX6_clear 44 = .ok (.iload_n 2, 1) := by decide +kernel
theorem dX6_clear_45 : decode cX6_clear 45 = .ok (.ireturn, 1) := by decide +kernel
theorem dX6_undo_0 : decode cX6_undo 0 = .ok (.aload_n 0, 1) := by decide +kernel
theorem dX6_undo_1 : decode cX6_undo 1 = .ok (.getfield 26, 3) := by decide +kernel
theorem dX6_undo_4 : decode cX6_undo 4 = .ok (.invokevirtual 137, 3) := by decide +kernel
theorem dX6_undo_7 : decode cX6_undo 7 = .ok (.ifCond .ne 6, 3) := by decide +kernel
theorem dX6_undo_10 : decode cX6_undo 10 = .ok (.bipush (-5), 2) := by decide +kernel
theorem dX6_undo_12 : decode cX6_undo 12 = .ok (.ireturn, 1) := by decide +kernel
theorem dX6_undo_13 : decode cX6_undo 13 = .ok (.aload_n 0, 1) := by decide +kernel
theorem dX6_undo_14 : decode cX6_undo 14 = .ok (.getfield 26, 3) := by decide +kernel
theorem dX6_undo_17 : decode cX6_undo 17 = .ok (.aload_n 0, 1) := by decide +kernel
theorem dX6_undo_18 : decode cX6_undo 18 = .ok (.getfield 10, 3) := by decide +kernel
theorem dX6_undo_21 : decode cX6_undo 21 = .ok (.invokevirtual 138, 3) := by decide +kernel
theorem dX6_undo_24 : decode cX6_undo 24 = .ok (.aload_n 0, 1) := by decide +kernel
theorem dX6_undo_25 : decode cX6_undo 25 = .ok (.getfield 26, 3) := by decide +kernel
theorem dX6_undo_28 : decode cX6_undo 28 = .ok (.invokevirtual 137, 3) := by decide +kernel
theorem dX6_undo_31 : decode cX6_undo 31 = .ok (.ireturn, 1) := by decide +kernel
theorem dX6_keep_0 : decode cX6_keep 0 = .ok (.aload_n 0, 1) := by decide +kernel
theorem dX6_keep_1 : decode cX6_keep 1 = .ok (.getfield 16, 3) := by decide +kernel
theorem dX6_keep_4 : decode cX6_keep 4 = .ok (.aload_n 0, 1) := by decide +kernel
theorem dX6_keep_5 : decode cX6_keep 5 = .ok (.getfield 10, 3) := by decide +kernel
theorem dX6_keep_8 : decode cX6_keep 8 = .ok (.invokevirtual 141, 3) := by decide +kernel
theorem dX6_keep_11 : decode cX6_keep 11 = .ok (.aload_n 0, 1) := by decide +kernel
theorem dX6_keep_12 : decode cX6_keep 12 = .ok (.iconst 1, 1) := by decide +kernel
theorem dX6_keep_13 : decode cX6_keep 13 = .ok (.putfield 19, 3) := by decide +kernel
theorem dX6_keep_16 : decode cX6_keep 16 = .ok (.aload_n 0, 1) := by decide +kernel
theorem dX6_keep_17 : decode cX6_keep 17 = .ok (.getfield 10, 3) := by decide +kernel
theorem dX6_keep_20 : decode cX6_keep 20 = .ok (.invokevirtual 81, 3) := by decide +kernel
theorem dX6_keep_23 : decode cX6_keep 23 = .ok (.ireturn, 1) := by decide +kernel
theorem dX6_restore_0 : decode cX6_restore 0 = .ok (.aload_n 0, 1) := by decide +kernel
theorem dX6_restore_1 : decode cX6_restore 1 = .ok (.getfield 19, 3) := by decide +kernel
theorem dX6_restore_4 : decode cX6_restore 4 = .ok (.ifCond .ne 6, 3) := by decide +kernel
theorem dX6_restore_7 : decode cX6_restore 7 = .ok (.bipush (-5), 2) := by decide +kernel
theorem dX6_restore_9 : decode cX6_restore 9 = .ok (.ireturn, 1) := by decide +kernel
theorem dX6_restore_10 : decode cX6_restore 10 = .ok (.aload_n 0, 1) := by decide +kernel
theorem dX6_restore_11 : decode cX6_restore 11 = .ok (.getfield 26, 3) := by decide +kernel
theorem dX6_restore_14 : decode cX6_restore 14 = .ok (.aload_n 0, 1) := by decide +kernel
theorem dX6_restore_15 : decode cX6_restore 15 = .ok (.getfield 10, 3) := by decide +kernel
theorem dX6_restore_18 : decode cX6_restore 18 = .ok (.invokevirtual 73, 3) := by decide +kernel
theorem dX6_restore_21 : decode cX6_restore 21 = .ok (.aload_n 0, 1) := by decide +kernel
theorem dX6_restore_22 : decode cX6_restore 22 = .ok (.getfield 10, 3) := by decide +kernel
theorem dX6_restore_25 : decode cX6_restore 25 = .ok (.aload_n 0, 1) := by decide +kernel
theorem dX6_restore_26 : decode cX6_restore 26 = .ok (.getfield 16, 3) := by decide +kernel
theorem dX6_restore_29 : decode cX6_restore 29 = .ok (.invokevirtual 141, 3) := by decide +kernel
theorem dX6_restore_32 : decode cX6_restore 32 = .ok (.aload_n 0, 1) := by decide +kernel
theorem dX6_restore_33 : decode cX6_restore 33 = .ok (.getfield 10, 3) := by decide +kernel
theorem dX6_restore_36 : decode cX6_restore 36 = .ok (.invokevirtual 81, 3) := by decide +kernel
theorem dX6_restore_39 : decode cX6_restore 39 = .ok (.ireturn, 1) := by decide +kernel
theorem dX6_link_0 : decode cX6_link 0 = .ok (.aload_n 0, 1) := by decide +kernel
theorem dX6_link_1 : decode cX6_link 1 = .ok (.getfield 10, 3) := by decide +kernel
theorem dX6_link_4 : decode cX6_link 4 = .ok (.iload_n 1, 1) := by decide +kernel
theorem dX6_link_5 : decode cX6_link 5 = .ok (.invokevirtual 84, 3) := by decide +kernel
theorem dX6_link_8 : decode cX6_link 8 = .ok (.ifCond .ne 5, 3) := by decide +kernel
theorem dX6_link_11 : decode cX6_link 11 = .ok (.iconst (-1), 1) := by decide +kernel
theorem dX6_link_12 : decode cX6_link 12 = .ok (.ireturn, 1) := by decide +kernel
theorem dX6_link_13 : decode cX6_link 13 = .ok (.iload_n 2, 1) := by decide +kernel
theorem dX6_link_14 : decode cX6_link 14 = .ok (.tableswitch 96 0 5 #[38, 47, 56, 65, 74, 83], 38) := by decide +kernel
theorem dX6_link_52 : decode cX6_link 52 = .ok (.aload_n 0, 1) := by decide +kernel
theorem dX6_link_53 : decode cX6_link 53 = .ok (.getfield 10, 3) := by decide +kernel
theorem dX6_link_56 : decode cX6_link 56 = .ok (.iload_n 1, 1) := by decide +kernel
theorem dX6_link_57 : decode cX6_link 57 = .ok (.invokevirtual 108, 3) := by decide +kernel
theorem dX6_link_60 : decode cX6_link 60 = .ok (.ireturn, 1) := by decide +kernel
theorem dX6_link_61 : decode cX6_link 61 = .ok (.aload_n 0, 1) := by decide +kernel
theorem dX6_link_62 : decode cX6_link 62 = .ok (.getfield 10, 3) := by decide +kernel
theorem dX6_link_65 : decode cX6_link 65 = .ok (.iload_n 1, 1) := by decide +kernel
theorem dX6_link_66 : decode cX6_link 66 = .ok (.invokevirtual 111, 3) := by decide +kernel
theorem dX6_link_69 : decode cX6_link 69 = .ok (.ireturn, 1) := by decide +kernel
theorem dX6_link_70 : decode cX6_link 70 = .ok (.aload_n 0, 1) := by decide +kernel
theorem dX6_link_71 : decode cX6_link 71 = .ok (.getfield 10, 3) := by decide +kernel
theorem dX6_link_74 : decode cX6_link 74 = .ok (.iload_n 1, 1) := by decide +kernel
theorem dX6_link_75 : decode cX6_link 75 = .ok (.invokevirtual 91, 3) := by decide +kernel
theorem dX6_link_78 : decode cX6_link 78 = .ok (.ireturn, 1) := by decide +kernel
theorem dX6_link_79 : decode cX6_link 79 = .ok (.aload_n 0, 1) := by decide +kernel
theorem dX6_link_80 : decode cX6_link 80 = .ok (.getfield 10, 3) := by decide +kernel
theorem dX6_link_83 : decode cX6_link 83 = .ok (.iload_n 1, 1) := by decide +kernel
theorem dX6_link_84 : decode cX6_link 84 = .ok (.invokevirtual 95, 3) := by decide +kernel
theorem dX6_link_87 : decode cX6_link 87 = .ok (.ireturn, 1) := by decide +kernel
theorem dX6_link_88 : decode cX6_link 88 = .ok (.aload_n 0, 1) := by decide +kernel
theorem dX6_link_89 : decode cX6_link 89 = .ok (.getfield 10, 3) := by decide +kernel
theorem dX6_link_92 : decode cX6_link 92 = .ok (.iload_n 1, 1) := by decide +kernel
theorem dX6_link_93 : decode cX6_link 93 = .ok (.invokevirtual 144, 3) := by decide +kernel
theorem dX6_link_96 : decode cX6_link 96 = .ok (.ireturn, 1) := by decide +kernel
theorem dX6_link_97 : decode cX6_link 97 = .ok (.aload_n 0, 1) := by decide +kernel
theorem dX6_link_98 : decode cX6_link 98 = .ok (.getfield 43, 3) := by decide +kernel
theorem dX6_link_101 : decode cX6_link 101 = .ok (.aload_n 0, 1) := by decide +kernel
theorem dX6_link_102 : decode cX6_link 102 = .ok (.getfield 10, 3) := by decide +kernel
theorem dX6_link_105 : decode cX6_link 105 = .ok (.iload_n 1, 1) := by decide +kernel
theorem dX6_link_106 : decode cX6_link 106 = .ok (.invokevirtual 147, 3) := by decide +kernel
theorem dX6_link_109 : decode cX6_link 109 = .ok (.ireturn, 1) := by decide +kernel
theorem dX6_link_110 : decode cX6_link 110 = .ok (.bipush (-2), 2) := by decide +kernel
theorem dX6_link_112 : decode cX6_link 112 = .ok (.ireturn, 1) := by decide +kernel
theorem dX6_joined_0 : decode cX6_joined 0 = .ok (.iload_n 1, 1) := by decide +kernel
theorem dX6_joined_1 : decode cX6_joined 1 = .ok (.invokestatic 102, 3) := by decide +kernel
theorem dX6_joined_4 : decode cX6_joined 4 = .ok (.ifCond .eq 17, 3) := by decide +kernel
theorem dX6_joined_7 : decode cX6_joined 7 = .ok (.iload_n 2, 1) := by decide +kernel
theorem dX6_joined_8 : decode cX6_joined 8 = .ok (.invokestatic 61, 3) := by decide +kernel
theorem dX6_joined_11 : decode cX6_joined 11 = .ok (.ifCond .eq 10, 3) := by decide +kernel
theorem dX6_joined_14 : decode cX6_joined 14 = .ok (.iload_n 3, 1) := by decide +kernel
theorem dX6_joined_15 : decode cX6_joined 15 = .ok (.invokestatic 61, 3) := by decide +kernel
theorem dX6_joined_18 : decode cX6_joined 18 = .ok (.ifCond .ne 5, 3) := by decide +kernel
theorem dX6_joined_21 : decode cX6_joined 21 = .ok (.iconst (-1), 1) := by decide +kernel
theorem dX6_joined_22 : decode cX6_joined 22 = .ok (.ireturn, 1) := by decide +kernel
theorem dX6_joined_23 : decode cX6_joined 23 = .ok (.aload_n 0, 1) := by decide +kernel
theorem dX6_joined_24 : decode cX6_joined 24 = .ok (.getfield 43, 3) := by decide +kernel
theorem dX6_joined_27 : decode cX6_joined 27 = .ok (.aload_n 0, 1) := by decide +kernel
theorem dX6_joined_28 : decode cX6_joined 28 = .ok (.getfield 10, 3) := by decide +kernel
theorem dX6_joined_31 : decode cX6_joined 31 = .ok (.iload_n 1, 1) := by decide +kernel
theorem dX6_joined_32 : decode cX6_joined 32 = .ok (.iload_n 2, 1) := by decide +kernel
theorem dX6_joined_33 : decode cX6_joined 33 = .ok (.iload_n 3, 1) := by decide +kernel
theorem dX6_joined_34 : decode cX6_joined 34 = .ok (.invokevirtual 151, 3) := by decide +kernel
theorem dX6_joined_37 : decode cX6_joined 37 = .ok (.invokestatic 155, 3) := by decide +kernel
theorem dX6_joined_40 : decode cX6_joined 40 = .ok (.ireturn, 1) := by decide +kernel
theorem dX6_moment_0 : decode cX6_moment 0 = .ok (.iload_n 1, 1) := by decide +kernel
theorem dX6_moment_1 : decode cX6_moment 1 = .ok (.invokestatic 102, 3) := by decide +kernel
theorem dX6_moment_4 : decode cX6_moment 4 = .ok (.ifCond .ne 5, 3) := by decide +kernel
theorem dX6_moment_7 : decode cX6_moment 7 = .ok (.iconst (-1), 1) := by decide +kernel
theorem dX6_moment_8 : decode cX6_moment 8 = .ok (.ireturn, 1) := by decide +kernel
theorem dX6_moment_9 : decode cX6_moment 9 = .ok (.iload_n 2, 1) := by decide +kernel
theorem dX6_moment_10 : decode cX6_moment 10 = .ok (.tableswitch 115 0 5 #[38, 47, 60, 76, 89, 102], 38) := by decide +kernel
theorem dX6_moment_48 : decode cX6_moment 48 = .ok (.aload_n 0, 1) := by decide +kernel
theorem dX6_moment_49 : decode cX6_moment 49 = .ok (.getfield 10, 3) := by decide +kernel
theorem dX6_moment_52 : decode cX6_moment 52 = .ok (.iload_n 1, 1) := by decide +kernel
theorem dX6_moment_53 : decode cX6_moment 53 = .ok (.invokevirtual 121, 3) := by decide +kernel
theorem dX6_moment_56 : decode cX6_moment 56 = .ok (.ireturn, 1) := by decide +kernel
theorem dX6_moment_57 : decode cX6_moment 57 = .ok (.aload_n 0, 1) := by decide +kernel
theorem dX6_moment_58 : decode cX6_moment 58 = .ok (.getfield 43, 3) := by decide +kernel
theorem dX6_moment_61 : decode cX6_moment 61 = .ok (.aload_n 0, 1) := by decide +kernel
theorem dX6_moment_62 : decode cX6_moment 62 = .ok (.getfield 10, 3) := by decide +kernel
theorem dX6_moment_65 : decode cX6_moment 65 = .ok (.iload_n 1, 1) := by decide +kernel
theorem dX6_moment_66 : decode cX6_moment 66 = .ok (.invokevirtual 159, 3) := by decide +kernel
theorem dX6_moment_69 : decode cX6_moment 69 = .ok (.ireturn, 1) := by decide +kernel
theorem dX6_moment_70 : decode cX6_moment 70 = .ok (.aload_n 0, 1) := by decide +kernel
theorem dX6_moment_71 : decode cX6_moment 71 = .ok (.getfield 43, 3) := by decide +kernel
theorem dX6_moment_74 : decode cX6_moment 74 = .ok (.aload_n 0, 1) := by decide +kernel
theorem dX6_moment_75 : decode cX6_moment 75 = .ok (.getfield 10, 3) := by decide +kernel
theorem dX6_moment_78 : decode cX6_moment 78 = .ok (.iload_n 1, 1) := by decide +kernel
theorem dX6_moment_79 : decode cX6_moment 79 = .ok (.invokevirtual 162, 3) := by decide +kernel
theorem dX6_moment_82 : decode cX6_moment 82 = .ok (.invokestatic 155, 3) := by decide +kernel
theorem dX6_moment_85 : decode cX6_moment 85 = .ok (.ireturn, 1) := by decide +kernel
theorem dX6_moment_86 : decode cX6_moment 86 = .ok (.aload_n 0, 1) := by decide +kernel
theorem dX6_moment_87 : decode cX6_moment 87 = .ok (.getfield 43, 3) := by decide +kernel
theorem dX6_moment_90 : decode cX6_moment 90 = .ok (.aload_n 0, 1) := by decide +kernel
theorem dX6_moment_91 : decode cX6_moment 91 = .ok (.getfield 10, 3) := by decide +kernel
theorem dX6_moment_94 : decode cX6_moment 94 = .ok (.iload_n 1, 1) := by decide +kernel
theorem dX6_moment_95 : decode cX6_moment 95 = .ok (.invokevirtual 166, 3) := by decide +kernel
theorem dX6_moment_98 : decode cX6_moment 98 = .ok (.ireturn, 1) := by decide +kernel
theorem dX6_moment_99 : decode cX6_moment 99 = .ok (.aload_n 0, 1) := by decide +kernel
theorem dX6_moment_100 : decode cX6_moment 100 = .ok (.getfield 43, 3) := by decide +kernel
theorem dX6_moment_103 : decode cX6_moment 103 = .ok (.aload_n 0, 1) := by decide +kernel
theorem dX6_moment_104 : decode cX6_moment 104 = .ok (.getfield 10, 3) := by decide +kernel
theorem dX6_moment_107 : decode cX6_moment 107 = .ok (.iload_n 1, 1) := by decide +kernel
theorem dX6_moment_108 : decode cX6_moment 108 = .ok (.invokevirtual 169, 3) := by decide +kernel
theorem dX6_moment_111 : decode cX6_moment 111 = .ok (.ireturn, 1) := by decide +kernel
theorem dX6_moment_112 : decode cX6_moment 112 = .ok (.aload_n 0, 1) := by decide +kernel
theorem dX6_moment_113 : decode cX6_moment 113 = .ok (.getfield 43, 3) := by decide +kernel
theorem dX6_moment_116 : decode cX6_moment 116 = .ok (.aload_n 0, 1) := by decide +kernel
theorem dX6_moment_117 : decode cX6_moment 117 = .ok (.getfield 10, 3) := by decide +kernel
theorem dX6_moment_120 : decode cX6_moment 120 = .ok (.iload_n 1, 1) := by decide +kernel
theorem dX6_moment_121 : decode cX6_moment 121 = .ok (.invokevirtual 172, 3) := by decide +kernel
theorem dX6_moment_124 : decode cX6_moment 124 = .ok (.ireturn, 1) := by decide +kernel
theorem dX6_moment_125 : decode cX6_moment 125 = .ok (.bipush (-2), 2) := by decide +kernel
theorem dX6_moment_127 : decode cX6_moment 127 = .ok (.ireturn, 1) := by decide +kernel
theorem dX6_part_0 : decode cX6_part 0 = .ok (.iload_n 1, 1) := by decide +kernel
theorem dX6_part_1 : decode cX6_part 1 = .ok (.invokestatic 102, 3) := by decide +kernel
theorem dX6_part_4 : decode cX6_part 4 = .ok (.ifCond .eq 10, 3) := by decide +kernel
theorem dX6_part_7 : decode cX6_part 7 = .ok (.iload_n 2, 1) := by decide +kernel
theorem dX6_part_8 : decode cX6_part 8 = .ok (.invokestatic 61, 3) := by decide +kernel
theorem dX6_part_11 : decode cX6_part 11 = .ok (.ifCond .ne 5, 3) := by decide +kernel
theorem dX6_part_14 : decode cX6_part 14 = .ok (.iconst (-1), 1) := by decide +kernel
theorem dX6_part_15 : decode cX6_part 15 = .ok (.ireturn, 1) := by decide +kernel
theorem dX6_part_16 : decode cX6_part 16 = .ok (.iload_n 3, 1) := by decide +kernel
theorem dX6_part_17 : decode cX6_part 17 = .ok (.tableswitch 69 0 2 #[27, 41, 55], 27) := by decide +kernel
theorem dX6_part_44 : decode cX6_part 44 = .ok (.aload_n 0, 1) := by decide +kernel
theorem dX6_part_45 : decode cX6_part 45 = .ok (.getfield 43, 3) := by decide +kernel
theorem dX6_part_48 : decode cX6_part 48 = .ok (.aload_n 0, 1) := by decide +kernel
theorem dX6_part_49 : decode cX6_part 49 = .ok (.getfield 10, 3) := by decide +kernel
theorem dX6_part_52 : decode cX6_part 52 = .ok (.iload_n 1, 1) := by decide +kernel
theorem dX6_part_53 : decode cX6_part 53 = .ok (.iload_n 2, 1) := by decide +kernel
theorem dX6_part_54 : decode cX6_part 54 = .ok (.invokevirtual 175, 3) := by decide +kernel
theorem dX6_part_57 : decode cX6_part 57 = .ok (.ireturn, 1) := by decide +kernel
theorem dX6_part_58 : decode cX6_part 58 = .ok (.aload_n 0, 1) := by decide +kernel
theorem dX6_part_59 : decode cX6_part 59 = .ok (.getfield 43, 3) := by decide +kernel
theorem dX6_part_62 : decode cX6_part 62 = .ok (.aload_n 0, 1) := by decide +kernel
theorem dX6_part_63 : decode cX6_part 63 = .ok (.getfield 10, 3) := by decide +kernel
theorem dX6_part_66 : decode cX6_part 66 = .ok (.iload_n 1, 1) := by decide +kernel
theorem dX6_part_67 : decode cX6_part 67 = .ok (.iload_n 2, 1) := by decide +kernel
theorem dX6_part_68 : decode cX6_part 68 = .ok (.invokevirtual 179, 3) := by decide +kernel
theorem dX6_part_71 : decode cX6_part 71 = .ok (.ireturn, 1) := by decide +kernel
theorem dX6_part_72 : decode cX6_part 72 = .ok (.aload_n 0, 1) := by decide +kernel
theorem dX6_part_73 : decode cX6_part 73 = .ok (.getfield 43, 3) := by decide +kernel
theorem dX6_part_76 : decode cX6_part 76 = .ok (.aload_n 0, 1) := by decide +kernel
theorem dX6_part_77 : decode cX6_part 77 = .ok (.getfield 10, 3) := by decide +kernel
theorem dX6_part_80 : decode cX6_part 80 = .ok (.iload_n 1, 1) := by decide +kernel
theorem dX6_part_81 : decode cX6_part 81 = .ok (.iload_n 2, 1) := by decide +kernel
theorem dX6_part_82 : decode cX6_part 82 = .ok (.invokevirtual 182, 3) := by decide +kernel
theorem dX6_part_85 : decode cX6_part 85 = .ok (.ireturn, 1) := by decide +kernel
theorem dX6_part_86 : decode cX6_part 86 = .ok (.bipush (-2), 2) := by decide +kernel
theorem dX6_part_88 : decode cX6_part 88 = .ok (.ireturn, 1) := by decide +kernel
theorem dX6_needed_0 : decode cX6_needed 0 = .ok (.aload_n 0, 1) := by decide +kernel
theorem dX6_needed_1 : decode cX6_needed 1 = .ok (.getfield 10, 3) := by decide +kernel
theorem dX6_needed_4 : decode cX6_needed 4 = .ok (.iload_n 1, 1) := by decide +kernel
theorem dX6_needed_5 : decode cX6_needed 5 = .ok (.invokevirtual 84, 3) := by decide +kernel
theorem dX6_needed_8 : decode cX6_needed 8 = .ok (.ifCond .eq 10, 3) := by decide +kernel
theorem dX6_needed_11 : decode cX6_needed 11 = .ok (.iload_n 2, 1) := by decide +kernel
theorem dX6_needed_12 : decode cX6_needed 12 = .ok (.invokestatic 102, 3) := by decide +kernel
theorem dX6_needed_15 : decode cX6_needed 15 = .ok (.ifCond .ne 5, 3) := by decide +kernel
theorem dX6_needed_18 : decode cX6_needed 18 = .ok (.iconst (-1), 1) := by decide +kernel
theorem dX6_needed_19 : decode cX6_needed 19 = .ok (.ireturn, 1) := by decide +kernel
theorem dX6_needed_20 : decode cX6_needed 20 = .ok (.aload_n 0, 1) := by decide +kernel
theorem dX6_needed_21 : decode cX6_needed 21 = .ok (.getfield 10, 3) := by decide +kernel
theorem dX6_needed_24 : decode cX6_needed 24 = .ok (.iload_n 1, 1) := by decide +kernel
theorem dX6_needed_25 : decode cX6_needed 25 = .ok (.iload_n 2, 1) := by decide +kernel
theorem dX6_needed_26 : decode cX6_needed 26 = .ok (.invokevirtual 105, 3) := by decide +kernel
theorem dX6_needed_29 : decode cX6_needed 29 = .ok (.ifCond .ne 6, 3) := by decide +kernel
theorem dX6_needed_32 : decode cX6_needed 32 = .ok (.bipush (-5), 2) := by decide +kernel
theorem dX6_needed_34 : decode cX6_needed 34 = .ok (.ireturn, 1) := by decide +kernel
theorem dX6_needed_35 : decode cX6_needed 35 = .ok (.aload_n 0, 1) := by decide +kernel
theorem dX6_needed_36 : decode cX6_needed 36 = .ok (.getfield 43, 3) := by decide +kernel
theorem dX6_needed_39 : decode cX6_needed 39 = .ok (.aload_n 0, 1) := by decide +kernel
theorem dX6_needed_40 : decode cX6_needed 40 = .ok (.getfield 10, 3) := by decide +kernel
theorem dX6_needed_43 : decode cX6_needed 43 = .ok (.iload_n 1, 1) := by decide +kernel
theorem dX6_needed_44 : decode cX6_needed 44 = .ok (.iload_n 2, 1) := by decide +kernel
theorem dX6_needed_45 : decode cX6_needed 45 = .ok (.invokevirtual 185, 3) := by decide +kernel
theorem dX6_needed_48 : decode cX6_needed 48 = .ok (.invokestatic 155, 3) := by decide +kernel
theorem dX6_needed_51 : decode cX6_needed 51 = .ok (.ireturn, 1) := by decide +kernel
theorem dX6_together_0 : decode cX6_together 0 = .ok (.iload_n 1, 1) := by decide +kernel
theorem dX6_together_1 : decode cX6_together 1 = .ok (.invokestatic 61, 3) := by decide +kernel
theorem dX6_together_4 : decode cX6_together 4 = .ok (.ifCond .eq 10, 3) := by decide +kernel
theorem dX6_together_7 : decode cX6_together 7 = .ok (.iload_n 2, 1) := by decide +kernel
theorem dX6_together_8 : decode cX6_together 8 = .ok (.invokestatic 61, 3) := by decide +kernel
theorem dX6_together_11 : decode cX6_together 11 = .ok (.ifCond .ne 5, 3) := by decide +kernel
theorem dX6_together_14 : decode cX6_together 14 = .ok (.iconst (-1), 1) := by decide +kernel
theorem dX6_together_15 : decode cX6_together 15 = .ok (.ireturn, 1) := by decide +kernel
theorem dX6_together_16 : decode cX6_together 16 = .ok (.aload_n 0, 1) := by decide +kernel
theorem dX6_together_17 : decode cX6_together 17 = .ok (.getfield 50, 3) := by decide +kernel
theorem dX6_together_20 : decode cX6_together 20 = .ok (.invokevirtual 189, 3) := by decide +kernel
theorem dX6_together_23 : decode cX6_together 23 = .ok (.iconst 0, 1) := by decide +kernel
theorem dX6_together_24 : decode cX6_together 24 = .ok (.istore 4, 2) := by decide +kernel
theorem dX6_together_26 : decode cX6_together 26 = .ok (.iload 4, 2) := by decide +kernel
theorem dX6_together_28 : decode cX6_together 28 = .ok (.bipush 64, 2) := by decide +kernel
theorem dX6_together_30 : decode cX6_together 30 = .ok (.if_icmp .ge 36, 3) := by decide +kernel
theorem dX6_together_33 : decode cX6_together 33 = .ok (.aload_n 0, 1) := by decide +kernel
theorem dX6_together_34 : decode cX6_together 34 = .ok (.getfield 43, 3) := by decide +kernel
theorem dX6_together_37 : decode cX6_together 37 = .ok (.aload_n 0, 1) := by decide +kernel
theorem dX6_together_38 : decode cX6_together 38 = .ok (.getfield 10, 3) := by decide +kernel
theorem dX6_together_41 : decode cX6_together 41 = .ok (.iload 4, 2) := by decide +kernel
theorem dX6_together_43 : decode cX6_together 43 = .ok (.iload_n 1, 1) := by decide +kernel
theorem dX6_together_44 : decode cX6_together 44 = .ok (.iload_n 2, 1) := by decide +kernel
theorem dX6_together_45 : decode cX6_together 45 = .ok (.invokevirtual 151, 3) := by decide +kernel
theorem dX6_together_48 : decode cX6_together 48 = .ok (.ifCond .eq 12, 3) := by decide +kernel
theorem dX6_together_51 : decode cX6_together 51 = .ok (.aload_n 0, 1) := by decide +kernel
theorem dX6_together_52 : decode cX6_together 52 = .ok (.getfield 50, 3) := by decide +kernel
theorem dX6_together_55 : decode cX6_together 55 = .ok (.iload 4, 2) := by decide +kernel
theorem dX6_together_57 : decode cX6_together 57 = .ok (.invokevirtual 190, 3) := by decide +kernel
theorem dX6_together_60 : decode cX6_together 60 = .ok (.iinc 4 1, 3) := by decide +kernel
theorem dX6_together_63 : decode cX6_together 63 = .ok (.goto (-37), 3) := by decide +kernel
theorem dX6_together_66 : decode cX6_together 66 = .ok (.iload_n 3, 1) := by decide +kernel
theorem dX6_together_67 : decode cX6_together 67 = .ok (.tableswitch 73 0 4 #[33, 41, 49, 57, 65], 33) := by decide +kernel
theorem dX6_together_100 : decode cX6_together 100 = .ok (.aload_n 0, 1) := by decide +kernel
theorem dX6_together_101 : decode cX6_together 101 = .ok (.getfield 50, 3) := by decide +kernel
theorem dX6_together_104 : decode cX6_together 104 = .ok (.invokevirtual 192, 3) := by decide +kernel
theorem dX6_together_107 : decode cX6_together 107 = .ok (.ireturn, 1) := by decide +kernel
theorem dX6_together_108 : decode cX6_together 108 = .ok (.aload_n 0, 1) := by decide +kernel
theorem dX6_together_109 : decode cX6_together 109 = .ok (.getfield 50, 3) := by decide +kernel
theorem dX6_together_112 : decode cX6_together 112 = .ok (.invokevirtual 195, 3) := by decide +kernel
theorem dX6_together_115 : decode cX6_together 115 = .ok (.ireturn, 1) := by decide +kernel
theorem dX6_together_116 : decode cX6_together 116 = .ok (.aload_n 0, 1) := by decide +kernel
theorem dX6_together_117 : decode cX6_together 117 = .ok (.getfield 50, 3) := by decide +kernel
theorem dX6_together_120 : decode cX6_together 120 = .ok (.invokevirtual 198, 3) := by decide +kernel
theorem dX6_together_123 : decode cX6_together 123 = .ok (.ireturn, 1) := by decide +kernel
theorem dX6_together_124 : decode cX6_together 124 = .ok (.aload_n 0, 1) := by decide +kernel
theorem dX6_together_125 : decode cX6_together 125 = .ok (.getfield 50, 3) := by decide +kernel
theorem dX6_together_128 : decode cX6_together 128 = .ok (.invokevirtual 201, 3) := by decide +kernel
theorem dX6_together_131 : decode cX6_together 131 = .ok (.ireturn, 1) := by decide +kernel
theorem dX6_together_132 : decode cX6_together 132 = .ok (.aload_n 0, 1) := by decide +kernel
theorem dX6_together_133 : decode cX6_together 133 = .ok (.getfield 50, 3) := by decide +kernel
theorem dX6_together_136 : decode cX6_together 136 = .ok (.invokevirtual 204, 3) := by decide +kernel
theorem dX6_together_139 : decode cX6_together 139 = .ok (.ireturn, 1) := by decide +kernel
theorem dX6_together_140 : decode cX6_together 140 = .ok (.bipush (-2), 2) := by decide +kernel
theorem dX6_together_142 : decode cX6_together 142 = .ok (.ireturn, 1) := by decide +kernel
theorem dX6_odd_0 : decode cX6_odd 0 = .ok (.iload_n 1, 1) := by decide +kernel
theorem dX6_odd_1 : decode cX6_odd 1 = .ok (.invokestatic 102, 3) := by decide +kernel
theorem dX6_odd_4 : decode cX6_odd 4 = .ok (.ifCond .ne 5, 3) := by decide +kernel
theorem dX6_odd_7 : decode cX6_odd 7 = .ok (.iconst (-1), 1) := by decide +kernel
theorem dX6_odd_8 : decode cX6_odd 8 = .ok (.ireturn, 1) := by decide +kernel
theorem dX6_odd_9 : decode cX6_odd 9 = .ok (.iload_n 1, 1) := by decide +kernel
theorem dX6_odd_10 : decode cX6_odd 10 = .ok (.istore_n 2, 1) := by decide +kernel
theorem dX6_odd_11 : decode cX6_odd 11 = .ok (.iload_n 2, 1) := by decide +kernel
theorem dX6_odd_12 : decode cX6_odd 12 = .ok (.bipush 64, 2) := by decide +kernel
theorem dX6_odd_14 : decode cX6_odd 14 = .ok (.if_icmp .ge 26, 3) := by decide +kernel
theorem dX6_odd_17 : decode cX6_odd 17 = .ok (.aload_n 0, 1) := by decide +kernel
theorem dX6_odd_18 : decode cX6_odd 18 = .ok (.getfield 43, 3) := by decide +kernel
theorem dX6_odd_21 : decode cX6_odd 21 = .ok (.aload_n 0, 1) := by decide +kernel
theorem dX6_odd_22 : decode cX6_odd 22 = .ok (.getfield 10, 3) := by decide +kernel
theorem dX6_odd_25 : decode cX6_odd 25 = .ok (.iload_n 2, 1) := by decide +kernel
theorem dX6_odd_26 : decode cX6_odd 26 = .ok (.invokevirtual 162, 3) := by decide +kernel
theorem dX6_odd_29 : decode cX6_odd 29 = .ok (.ifCond .eq 5, 3) := by decide +kernel
theorem dX6_odd_32 : decode cX6_odd 32 = .ok (.iload_n 2, 1) := by decide +kernel
theorem dX6_odd_33 : decode cX6_odd 33 = .ok (.ireturn, 1) := by decide +kernel
theorem dX6_odd_34 : decode cX6_odd 34 = .ok (.iinc 2 1, 3) := by decide +kernel
theorem dX6_odd_37 : decode cX6_odd 37 = .ok (.goto (-26), 3) := by decide +kernel
theorem dX6_odd_40 : decode cX6_odd 40 = .ok (.bipush (-5), 2) := by decide +kernel
theorem dX6_odd_42 : decode cX6_odd 42 = .ok (.ireturn, 1) := by decide +kernel
theorem dX6_span_0 : decode cX6_span 0 = .ok (.iload_n 1, 1) := by decide +kernel
theorem dX6_span_1 : decode cX6_span 1 = .ok (.invokestatic 102, 3) := by decide +kernel
theorem dX6_span_4 : decode cX6_span 4 = .ok (.ifCond .ne 5, 3) := by decide +kernel
theorem dX6_span_7 : decode cX6_span 7 = .ok (.iconst (-1), 1) := by decide +kernel
theorem dX6_span_8 : decode cX6_span 8 = .ok (.ireturn, 1) := by decide +kernel
theorem dX6_span_9 : decode cX6_span 9 = .ok (.iload_n 2, 1) := by decide +kernel
theorem dX6_span_10 : decode cX6_span 10 = .ok (.ifCond .lt 9, 3) := by decide +kernel
theorem dX6_span_13 : decode cX6_span 13 = .ok (.iload_n 2, 1) := by decide +kernel
theorem dX6_span_14 : decode cX6_span 14 = .ok (.bipush 6, 2) := by decide +kernel
theorem dX6_span_16 : decode cX6_span 16 = .ok (.if_icmp .le 6, 3) := by decide +kernel
theorem dX6_span_19 : decode cX6_span 19 = .ok (.bipush (-2), 2) := by decide +kernel
theorem dX6_span_21 : decode cX6_span 21 = .ok (.ireturn, 1) := by decide +kernel
theorem dX6_span_22 : decode cX6_span 22 = .ok (.aload_n 0, 1) := by decide +kernel
theorem dX6_span_23 : decode cX6_span 23 = .ok (.getfield 57, 3) := by decide +kernel
theorem dX6_span_26 : decode cX6_span 26 = .ok (.aload_n 0, 1) := by decide +kernel
theorem dX6_span_27 : decode cX6_span 27 = .ok (.getfield 10, 3) := by decide +kernel
theorem dX6_span_30 : decode cX6_span 30 = .ok (.iload_n 1, 1) := by decide +kernel
theorem dX6_span_31 : decode cX6_span 31 = .ok (.iload_n 2, 1) := by decide +kernel
theorem dX6_span_32 : decode cX6_span 32 = .ok (.invokevirtual 207, 3) := by decide +kernel
theorem dX6_span_35 : decode cX6_span 35 = .ok (.iload_n 3, 1) := by decide +kernel
theorem dX6_span_36 : decode cX6_span 36 = .ok (.tableswitch 79 0 4 #[36, 42, 47, 55, 63], 36) := by decide +kernel
theorem dX6_span_72 : decode cX6_span 72 = .ok (.iload_n 1, 1) := by decide +kernel
theorem dX6_span_73 : decode cX6_span 73 = .ok (.iload_n 2, 1) := by decide +kernel
theorem dX6_span_74 : decode cX6_span 74 = .ok (.invokestatic 211, 3) := by decide +kernel
theorem dX6_span_77 : decode cX6_span 77 = .ok (.ireturn, 1) := by decide +kernel
theorem dX6_span_78 : decode cX6_span 78 = .ok (.iload_n 2, 1) := by decide +kernel
theorem dX6_span_79 : decode cX6_span 79 = .ok (.invokestatic 215, 3) := by decide +kernel
theorem dX6_span_82 : decode cX6_span 82 = .ok (.ireturn, 1) := by decide +kernel
theorem dX6_span_83 : decode cX6_span 83 = .ok (.aload_n 0, 1) := by decide +kernel
theorem dX6_span_84 : decode cX6_span 84 = .ok (.getfield 57, 3) := by decide +kernel
theorem dX6_span_87 : decode cX6_span 87 = .ok (.invokevirtual 218, 3) := by decide +kernel
theorem dX6_span_90 : decode cX6_span 90 = .ok (.ireturn, 1) := by decide +kernel
theorem dX6_span_91 : decode cX6_span 91 = .ok (.aload_n 0, 1) := by decide +kernel
theorem dX6_span_92 : decode cX6_span 92 = .ok (.getfield 57, 3) := by decide +kernel
theorem dX6_span_95 : decode cX6_span 95 = .ok (.invokevirtual 221, 3) := by decide +kernel
theorem dX6_span_98 : decode cX6_span 98 = .ok (.ireturn, 1) := by decide +kernel
theorem dX6_span_99 : decode cX6_span 99 = .ok (.aload_n 0, 1) := by decide +kernel
theorem dX6_span_100 : decode cX6_span 100 = .ok (.getfield 57, 3) := by decide +kernel
theorem dX6_span_103 : decode cX6_span 103 = .ok (.invokevirtual 218, 3) := by decide +kernel
theorem dX6_span_106 : decode cX6_span 106 = .ok (.aload_n 0, 1) := by decide +kernel
theorem dX6_span_107 : decode cX6_span 107 = .ok (.getfield 57, 3) := by decide +kernel
theorem dX6_span_110 : decode cX6_span 110 = .ok (.invokevirtual 221, 3) := by decide +kernel
theorem dX6_span_113 : decode cX6_span 113 = .ok (.isub, 1) := by decide +kernel
theorem dX6_span_114 : decode cX6_span 114 = .ok (.ireturn, 1) := by decide +kernel
theorem dX6_span_115 : decode cX6_span 115 = .ok (.bipush (-2), 2) := by decide +kernel
theorem dX6_span_117 : decode cX6_span 117 = .ok (.ireturn, 1) := by decide +kernel
theorem dX6_count_0 : decode cX6_count 0 = .ok (.iload_n 1, 1) := by decide +kernel
theorem dX6_count_1 : decode cX6_count 1 = .ok (.tableswitch 117 0 8 #[51, 59, 59, 59, 65, 77, 89, 101, 109], 51) := by decide +kernel
theorem dX6_count_52 : decode cX6_count 52 = .ok (.aload_n 0, 1) := by decide +kernel
theorem dX6_count_53 : decode cX6_count 53 = .ok (.getfield 10, 3) := by decide +kernel
theorem dX6_count_56 : decode cX6_count 56 = .ok (.invokevirtual 81, 3) := by decide +kernel
theorem dX6_count_59 : decode cX6_count 59 = .ok (.ireturn, 1) := by decide +kernel
theorem dX6_count_60 : decode cX6_count 60 = .ok (.aload_n 0, 1) := by decide +kernel
theorem dX6_count_61 : decode cX6_count 61 = .ok (.iload_n 1, 1) := by decide +kernel
theorem dX6_count_62 : decode cX6_count 62 = .ok (.invokevirtual 224, 3) := by decide +kernel
theorem dX6_count_65 : decode cX6_count 65 = .ok (.ireturn, 1) := by decide +kernel
theorem dX6_count_66 : decode cX6_count 66 = .ok (.aload_n 0, 1) := by decide +kernel
theorem dX6_count_67 : decode cX6_count 67 = .ok (.getfield 43, 3) := by decide +kernel
theorem dX6_count_70 : decode cX6_count 70 = .ok (.aload_n 0, 1) := by decide +kernel
theorem dX6_count_71 : decode cX6_count 71 = .ok (.getfield 10, 3) := by decide +kernel
theorem dX6_count_74 : decode cX6_count 74 = .ok (.invokevirtual 227, 3) := by decide +kernel
theorem dX6_count_77 : decode cX6_count 77 = .ok (.ireturn, 1) := by decide +kernel
theorem dX6_count_78 : decode cX6_count 78 = .ok (.aload_n 0, 1) := by decide +kernel
theorem dX6_count_79 : decode cX6_count 79 = .ok (.getfield 43, 3) := by decide +kernel
theorem dX6_count_82 : decode cX6_count 82 = .ok (.aload_n 0, 1) := by decide +kernel
theorem dX6_count_83 : decode cX6_count 83 = .ok (.getfield 10, 3) := by decide +kernel
theorem dX6_count_86 : decode cX6_count 86 = .ok (.invokevirtual 230, 3) := by decide +kernel
theorem dX6_count_89 : decode cX6_count 89 = .ok (.ireturn, 1) := by decide +kernel
theorem dX6_count_90 : decode cX6_count 90 = .ok (.aload_n 0, 1) := by decide +kernel
theorem dX6_count_91 : decode cX6_count 91 = .ok (.getfield 43, 3) := by decide +kernel
theorem dX6_count_94 : decode cX6_count 94 = .ok (.aload_n 0, 1) := by decide +kernel
theorem dX6_count_95 : decode cX6_count 95 = .ok (.getfield 10, 3) := by decide +kernel
theorem dX6_count_98 : decode cX6_count 98 = .ok (.invokevirtual 233, 3) := by decide +kernel
theorem dX6_count_101 : decode cX6_count 101 = .ok (.ireturn, 1) := by decide +kernel
theorem dX6_count_102 : decode cX6_count 102 = .ok (.aload_n 0, 1) := by decide +kernel
theorem dX6_count_103 : decode cX6_count 103 = .ok (.getfield 26, 3) := by decide +kernel
theorem dX6_count_106 : decode cX6_count 106 = .ok (.invokevirtual 137, 3) := by decide +kernel
theorem dX6_count_109 : decode cX6_count 109 = .ok (.ireturn, 1) := by decide +kernel
theorem dX6_count_110 : decode cX6_count 110 = .ok (.aload_n 0, 1) := by decide +kernel
theorem dX6_count_111 : decode cX6_count 111 = .ok (.getfield 33, 3) := by decide +kernel
theorem dX6_count_114 : decode cX6_count 114 = .ok (.invokevirtual 127, 3) := by decide +kernel
theorem dX6_count_117 : decode cX6_count 117 = .ok (.ireturn, 1) := by decide +kernel
theorem dX6_count_118 : decode cX6_count 118 = .ok (.bipush (-2), 2) := by decide +kernel
theorem dX6_count_120 : decode cX6_count 120 = .ok (.ireturn, 1) := by decide +kernel
theorem dX6_countOnWay_0 : decode cX6_countOnWay 0 = .ok (.aload_n 0, 1) := by decide +kernel
theorem dX6_countOnWay_1 : decode cX6_countOnWay 1 = .ok (.getfield 57, 3) := by decide +kernel
theorem dX6_countOnWay_4 : decode cX6_countOnWay 4 = .ok (.aload_n 0, 1) := by decide +kernel
theorem dX6_countOnWay_5 : decode cX6_countOnWay 5 = .ok (.getfield 10, 3) := by decide +kernel
theorem dX6_countOnWay_8 : decode cX6_countOnWay 8 = .ok (.invokevirtual 236, 3) := by decide +kernel
theorem dX6_countOnWay_11 : decode cX6_countOnWay 11 = .ok (.iload_n 1, 1) := by decide +kernel
theorem dX6_countOnWay_12 : decode cX6_countOnWay 12 = .ok (.iconst 1, 1) := by decide +kernel
theorem dX6_countOnWay_13 : decode cX6_countOnWay 13 = .ok (.if_icmp .ne 11, 3) := by decide +kernel
theorem dX6_countOnWay_16 : decode cX6_countOnWay 16 = .ok (.aload_n 0, 1) := by decide +kernel
theorem dX6_countOnWay_17 : decode cX6_countOnWay 17 = .ok (.getfield 57, 3) := by decide +kernel
theorem dX6_countOnWay_20 : decode cX6_countOnWay 20 = .ok (.invokevirtual 239, 3) := by decide +kernel
theorem dX6_countOnWay_23 : decode cX6_countOnWay 23 = .ok (.ireturn, 1) := by decide +kernel
theorem dX6_countOnWay_24 : decode cX6_countOnWay 24 = .ok (.iload_n 1, 1) := by decide +kernel
theorem dX6_countOnWay_25 : decode cX6_countOnWay 25 = .ok (.iconst 2, 1) := by decide +kernel
theorem dX6_countOnWay_26 : decode cX6_countOnWay 26 = .ok (.if_icmp .ne 13, 3) := by decide +kernel
theorem dX6_countOnWay_29 : decode cX6_countOnWay 29 = .ok (.aload_n 0, 1) := by decide +kernel
theorem dX6_countOnWay_30 : decode cX6_countOnWay 30 = .ok (.getfield 57, 3) := by decide +kernel
theorem dX6_countOnWay_33 : decode cX6_countOnWay 33 = .ok (.invokevirtual 242, 3) := by decide +kernel
theorem dX6_countOnWay_36 : decode cX6_countOnWay 36 = .ok (.goto 10, 3) := by decide +kernel
theorem dX6_countOnWay_39 : decode cX6_countOnWay 39 = .ok (.aload_n 0, 1) := by decide +kernel
theorem dX6_countOnWay_40 : decode cX6_countOnWay 40 = .ok (.getfield 57, 3) := by decide +kernel
theorem dX6_countOnWay_43 : decode cX6_countOnWay 43 = .ok (.invokevirtual 245, 3) := by decide +kernel
theorem dX6_countOnWay_46 : decode cX6_countOnWay 46 = .ok (.ireturn, 1) := by decide +kernel
theorem dX6_asNumber_0 : decode cX6_asNumber 0 = .ok (.iload_n 0, 1) := by decide +kernel
theorem dX6_asNumber_1 : decode cX6_asNumber 1 = .ok (.ifCond .eq 7, 3) := by decide +kernel
theorem dX6_asNumber_4 : decode cX6_asNumber 4 = .ok (.iconst 1, 1) := by decide +kernel
theorem dX6_asNumber_5 : decode cX6_asNumber 5 = .ok (.goto 4, 3) := by decide +kernel
theorem dX6_asNumber_8 : decode cX6_asNumber 8 = .ok (.iconst 0, 1) := by decide +kernel
theorem dX6_asNumber_9 : decode cX6_asNumber 9 = .ok (.ireturn, 1) := by decide +kernel
theorem dX6_isPoint_0 : decode cX6_isPoint 0 = .ok (.iload_n 0, 1) := by decide +kernel
theorem dX6_isPoint_1 : decode cX6_isPoint 1 = .ok (.ifCond .lt 13, 3) := by decide +kernel
theorem dX6_isPoint_4 : decode cX6_isPoint 4 = .ok (.iload_n 0, 1) := by decide +kernel
theorem dX6_isPoint_5 : decode cX6_isPoint 5 = .ok (.bipush 16, 2) := by decide +kernel
theorem dX6_isPoint_7 : decode cX6_isPoint 7 = .ok (.if_icmp .ge 7, 3) := by decide +kernel
theorem dX6_isPoint_10 : decode cX6_isPoint 10 = .ok (.iconst 1, 1) := by decide +kernel
theorem dX6_isPoint_11 : decode cX6_isPoint 11 = .ok (.goto 4, 3) := by decide +kernel
theorem dX6_isPoint_14 : decode cX6_isPoint 14 = .ok (.iconst 0, 1) := by decide +kernel
theorem dX6_isPoint_15 : decode cX6_isPoint 15 = .ok (.ireturn, 1) := by decide +kernel
theorem dX6_isMoment_0 : decode cX6_isMoment 0 = .ok (.iload_n 0, 1) := by decide +kernel
theorem dX6_isMoment_1 : decode cX6_isMoment 1 = .ok (.ifCond .lt 13, 3) := by decide +kernel
theorem dX6_isMoment_4 : decode cX6_isMoment 4 = .ok (.iload_n 0, 1) := by decide +kernel
theorem dX6_isMoment_5 : decode cX6_isMoment 5 = .ok (.bipush 64, 2) := by decide +kernel
theorem dX6_isMoment_7 : decode cX6_isMoment 7 = .ok (.if_icmp .ge 7, 3) := by decide +kernel
theorem dX6_isMoment_10 : decode cX6_isMoment 10 = .ok (.iconst 1, 1) := by decide +kernel
theorem dX6_isMoment_11 : decode cX6_isMoment 11 = .ok (.goto 4, 3) := by decide +kernel
theorem dX6_isMoment_14 : decode cX6_isMoment 14 = .ok (.iconst 0, 1) := by decide +kernel
theorem dX6_isMoment_15 : decode cX6_isMoment 15 = .ok (.ireturn, 1) := by decide +kernel
theorem dX6_isLife_0 : decode cX6_isLife 0 = .ok (.iload_n 0, 1) := by decide +kernel
theorem dX6_isLife_1 : decode cX6_isLife 1 = .ok (.invokestatic 102, 3) := by decide +kernel
theorem dX6_isLife_4 : decode cX6_isLife 4 = .ok (.ifCond .eq 18, 3) := by decide +kernel
theorem dX6_isLife_7 : decode cX6_isLife 7 = .ok (.iload_n 1, 1) := by decide +kernel
theorem dX6_isLife_8 : decode cX6_isLife 8 = .ok (.iload_n 0, 1) := by decide +kernel
theorem dX6_isLife_9 : decode cX6_isLife 9 = .ok (.if_icmp .le 13, 3) := by decide +kernel
theorem dX6_isLife_12 : decode cX6_isLife 12 = .ok (.iload_n 1, 1) := by decide +kernel
theorem dX6_isLife_13 : decode cX6_isLife 13 = .ok (.bipush 64, 2) := by decide +kernel
theorem dX6_isLife_15 : decode cX6_isLife 15 = .ok (.if_icmp .gt 7, 3) := by decide +kernel
theorem dX6_isLife_18 : decode cX6_isLife 18 = .ok (.iconst 1, 1) := by decide +kernel
theorem dX6_isLife_19 : decode cX6_isLife 19 = .ok (.goto 4, 3) := by decide +kernel
theorem dX6_isLife_22 : decode cX6_isLife 22 = .ok (.iconst 0, 1) := by decide +kernel
theorem dX6_isLife_23 : decode cX6_isLife 23 = .ok (.ireturn, 1) := by decide +kernel
theorem dX6_spanLength_0 : decode cX6_spanLength 0 = .ok (.bipush 64, 2) := by decide +kernel
theorem dX6_spanLength_2 : decode cX6_spanLength 2 = .ok (.iload_n 0, 1) := by decide +kernel
theorem dX6_spanLength_3 : decode cX6_spanLength 3 = .ok (.ishr, 1) := by decide +kernel
theorem dX6_spanLength_4 : decode cX6_spanLength 4 = .ok (.ireturn, 1) := by decide +kernel
theorem dX6_spanBegin_0 : decode cX6_spanBegin 0 = .ok (.iload_n 0, 1) := by decide +kernel
theorem dX6_spanBegin_1 : decode cX6_spanBegin 1 = .ok (.iload_n 1, 1) := by decide +kernel
theorem dX6_spanBegin_2 : decode cX6_spanBegin 2 = .ok (.invokestatic 215, 3) := by decide +kernel
theorem dX6_spanBegin_5 : decode cX6_spanBegin 5 = .ok (.ineg, 1) := by decide +kernel
theorem dX6_spanBegin_6 : decode cX6_spanBegin 6 = .ok (.iand, 1) := by decide +kernel
theorem dX6_spanBegin_7 : decode cX6_spanBegin 7 = .ok (.ireturn, 1) := by decide +kernel
