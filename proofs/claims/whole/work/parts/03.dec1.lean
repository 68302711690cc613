theorem dX7_meetFoes_17 : decode cX7_meetFoes 17 = .ok (.invokevirtual 34, 3) := by decide +kernel
theorem dX7_meetFoes_20 : decode cX7_meetFoes 20 = .ok (.ifCond .eq 27, 3) := by decide +kernel
theorem dX7_meetFoes_23 : decode cX7_meetFoes 23 = .ok (.aload_n 0, 1) := by decide +kernel
theorem dX7_meetFoes_24 : decode cX7_meetFoes 24 = .ok (.getfield 19, 3) := by decide +kernel
theorem dX7_meetFoes_27 : decode cX7_meetFoes 27 = .ok (.iload_n 2, 1) := by decide +kernel
theorem dX7_meetFoes_28 : decode cX7_meetFoes 28 = .ok (.dup2, 1) := by decide +kernel
theorem dX7_meetFoes_29 : decode cX7_meetFoes 29 = .ok (.iaload, 1) := by decide +kernel
theorem dX7_meetFoes_30 : decode cX7_meetFoes 30 = .ok (.iconst 1, 1) := by decide +kernel
theorem dX7_meetFoes_31 : decode cX7_meetFoes 31 = .ok (.iload_n 1, 1) := by decide +kernel
theorem dX7_meetFoes_32 : decode cX7_meetFoes 32 = .ok (.ishl, 1) := by decide +kernel
theorem dX7_meetFoes_33 : decode cX7_meetFoes 33 = .ok (.ior, 1) := by decide +kernel
theorem dX7_meetFoes_34 : decode cX7_meetFoes 34 = .ok (.iastore, 1) := by decide +kernel
theorem dX7_meetFoes_35 : decode cX7_meetFoes 35 = .ok (.aload_n 0, 1) := by decide +kernel
theorem dX7_meetFoes_36 : decode cX7_meetFoes 36 = .ok (.getfield 19, 3) := by decide +kernel
theorem dX7_meetFoes_39 : decode cX7_meetFoes 39 = .ok (.iload_n 1, 1) := by decide +kernel
theorem dX7_meetFoes_40 : decode cX7_meetFoes 40 = .ok (.dup2, 1) := by decide +kernel
theorem dX7_meetFoes_41 : decode cX7_meetFoes 41 = .ok (.iaload, 1) := by decide +kernel
theorem dX7_meetFoes_42 : decode cX7_meetFoes 42 = .ok (.iconst 1, 1) := by decide +kernel
theorem dX7_meetFoes_43 : decode cX7_meetFoes 43 = .ok (.iload_n 2, 1) := by decide +kernel
theorem dX7_meetFoes_44 : decode cX7_meetFoes 44 = .ok (.ishl, 1) := by decide +kernel
theorem dX7_meetFoes_45 : decode cX7_meetFoes 45 = .ok (.ior, 1) := by decide +kernel
theorem dX7_meetFoes_46 : decode cX7_meetFoes 46 = .ok (.iastore, 1) := by decide +kernel
theorem dX7_meetFoes_47 : decode cX7_meetFoes 47 = .ok (.iinc 2 1, 3) := by decide +kernel
theorem dX7_meetFoes_50 : decode cX7_meetFoes 50 = .ok (.goto (-41), 3) := by decide +kernel
theorem dX7_meetFoes_53 : decode cX7_meetFoes 53 = .ok (.return_, 1) := by decide +kernel
theorem dX7_clear_0 : decode cX7_clear 0 = .ok (.aload_n 0, 1) := by decide +kernel
theorem dX7_clear_1 : decode cX7_clear 1 = .ok (.getfield 22, 3) := by decide +kernel
theorem dX7_clear_4 : decode cX7_clear 4 = .ok (.istore_n 1, 1) := by decide +kernel
theorem dX7_clear_5 : decode cX7_clear 5 = .ok (.aload_n 0, 1) := by decide +kernel
theorem dX7_clear_6 : decode cX7_clear 6 = .ok (.iconst 0, 1) := by decide +kernel
theorem dX7_clear_7 : decode cX7_clear 7 = .ok (.putfield 22, 3) := by decide +kernel
theorem dX7_clear_10 : decode cX7_clear 10 = .ok (.aload_n 0, 1) := by decide +kernel
theorem dX7_clear_11 : decode cX7_clear 11 = .ok (.iconst 1, 1) := by decide +kernel
theorem dX7_clear_12 : decode cX7_clear 12 = .ok (.putfield 26, 3) := by decide +kernel
theorem dX7_clear_15 : decode cX7_clear 15 = .ok (.iload_n 1, 1) := by decide +kernel
theorem dX7_clear_16 : decode cX7_clear 16 = .ok (.ireturn, 1) := by decide +kernel
theorem dX7_clash_0 : decode cX7_clash 0 = .ok (.aload_n 0, 1) := by decide +kernel
theorem dX7_clash_1 : decode cX7_clash 1 = .ok (.getfield 9, 3) := by decide +kernel
theorem dX7_clash_4 : decode cX7_clash 4 = .ok (.iload_n 1, 1) := by decide +kernel
theorem dX7_clash_5 : decode cX7_clash 5 = .ok (.iaload, 1) := by decide +kernel
theorem dX7_clash_6 : decode cX7_clash 6 = .ok (.aload_n 0, 1) := by decide +kernel
theorem dX7_clash_7 : decode cX7_clash 7 = .ok (.getfield 9, 3) := by decide +kernel
theorem dX7_clash_10 : decode cX7_clash 10 = .ok (.iload_n 2, 1) := by decide +kernel
theorem dX7_clash_11 : decode cX7_clash 11 = .ok (.iaload, 1) := by decide +kernel
theorem dX7_clash_12 : decode cX7_clash 12 = .ok (.if_icmp .eq 5, 3) := by decide +kernel
theorem dX7_clash_15 : decode cX7_clash 15 = .ok (.iconst 0, 1) := by decide +kernel
theorem dX7_clash_16 : decode cX7_clash 16 = .ok (.ireturn, 1) := by decide +kernel
theorem dX7_clash_17 : decode cX7_clash 17 = .ok (.aload_n 0, 1) := by decide +kernel
theorem dX7_clash_18 : decode cX7_clash 18 = .ok (.getfield 16, 3) := by decide +kernel
theorem dX7_clash_21 : decode cX7_clash 21 = .ok (.iload_n 1, 1) := by decide +kernel
theorem dX7_clash_22 : decode cX7_clash 22 = .ok (.iaload, 1) := by decide +kernel
theorem dX7_clash_23 : decode cX7_clash 23 = .ok (.aload_n 0, 1) := by decide +kernel
theorem dX7_clash_24 : decode cX7_clash 24 = .ok (.getfield 16, 3) := by decide +kernel
theorem dX7_clash_27 : decode cX7_clash 27 = .ok (.iload_n 2, 1) := by decide +kernel
theorem dX7_clash_28 : decode cX7_clash 28 = .ok (.iaload, 1) := by decide +kernel
theorem dX7_clash_29 : decode cX7_clash 29 = .ok (.isub, 1) := by decide +kernel
theorem dX7_clash_30 : decode cX7_clash 30 = .ok (.invokestatic 38, 3) := by decide +kernel
theorem dX7_clash_33 : decode cX7_clash 33 = .ok (.istore_n 3, 1) := by decide +kernel
theorem dX7_clash_34 : decode cX7_clash 34 = .ok (.aload_n 0, 1) := by decide +kernel
theorem dX7_clash_35 : decode cX7_clash 35 = .ok (.getfield 13, 3) := by decide +kernel
theorem dX7_clash_38 : decode cX7_clash 38 = .ok (.iload_n 1, 1) := by decide +kernel
theorem dX7_clash_39 : decode cX7_clash 39 = .ok (.iaload, 1) := by decide +kernel
theorem dX7_clash_40 : decode cX7_clash 40 = .ok (.aload_n 0, 1) := by decide +kernel
theorem dX7_clash_41 : decode cX7_clash 41 = .ok (.getfield 13, 3) := by decide +kernel
theorem dX7_clash_44 : decode cX7_clash 44 = .ok (.iload_n 2, 1) := by decide +kernel
theorem dX7_clash_45 : decode cX7_clash 45 = .ok (.iaload, 1) := by decide +kernel
theorem dX7_clash_46 : decode cX7_clash 46 = .ok (.isub, 1) := by decide +kernel
theorem dX7_clash_47 : decode cX7_clash 47 = .ok (.invokestatic 38, 3) := by decide +kernel
theorem dX7_clash_50 : decode cX7_clash 50 = .ok (.istore 4, 2) := by decide +kernel
theorem dX7_clash_52 : decode cX7_clash 52 = .ok (.iload_n 3, 1) := by decide +kernel
theorem dX7_clash_53 : decode cX7_clash 53 = .ok (.ifCond .ne 8, 3) := by decide +kernel
theorem dX7_clash_56 : decode cX7_clash 56 = .ok (.iload 4, 2) := by decide +kernel
theorem dX7_clash_58 : decode cX7_clash 58 = .ok (.ifCond .gt 14, 3) := by decide +kernel
theorem dX7_clash_61 : decode cX7_clash 61 = .ok (.iload_n 3, 1) := by decide +kernel
theorem dX7_clash_62 : decode cX7_clash 62 = .ok (.iconst 1, 1) := by decide +kernel
theorem dX7_clash_63 : decode cX7_clash 63 = .ok (.if_icmp .ne 13, 3) := by decide +kernel
theorem dX7_clash_66 : decode cX7_clash 66 = .ok (.iload 4, 2) := by decide +kernel
theorem dX7_clash_68 : decode cX7_clash 68 = .ok (.iconst 2, 1) := by decide +kernel
theorem dX7_clash_69 : decode cX7_clash 69 = .ok (.if_icmp .le 7, 3) := by decide +kernel
theorem dX7_clash_72 : decode cX7_clash 72 = .ok (.iconst 1, 1) := by decide +kernel
theorem dX7_clash_73 : decode cX7_clash 73 = .ok (.goto 4, 3) := by decide +kernel
theorem dX7_clash_76 : decode cX7_clash 76 = .ok (.iconst 0, 1) := by decide +kernel
theorem dX7_clash_77 : decode cX7_clash 77 = .ok (.ireturn, 1) := by decide +kernel
theorem dX7_fewestFalse_0 : decode cX7_fewestFalse 0 = .ok (.aload_n 0, 1) := by decide +kernel
theorem dX7_fewestFalse_1 : decode cX7_fewestFalse 1 = .ok (.getfield 26, 3) := by decide +kernel
theorem dX7_fewestFalse_4 : decode cX7_fewestFalse 4 = .ok (.ifCond .eq 16, 3) := by decide +kernel
theorem dX7_fewestFalse_7 : decode cX7_fewestFalse 7 = .ok (.aload_n 0, 1) := by decide +kernel
theorem dX7_fewestFalse_8 : decode cX7_fewestFalse 8 = .ok (.aload_n 0, 1) := by decide +kernel
theorem dX7_fewestFalse_9 : decode cX7_fewestFalse 9 = .ok (.invokevirtual 44, 3) := by decide +kernel
theorem dX7_fewestFalse_12 : decode cX7_fewestFalse 12 = .ok (.putfield 48, 3) := by decide +kernel
theorem dX7_fewestFalse_15 : decode cX7_fewestFalse 15 = .ok (.aload_n 0, 1) := by decide +kernel
theorem dX7_fewestFalse_16 : decode cX7_fewestFalse 16 = .ok (.iconst 0, 1) := by decide +kernel
theorem dX7_fewestFalse_17 : decode cX7_fewestFalse 17 = .ok (.putfield 26, 3) := by decide +kernel
theorem dX7_fewestFalse_20 : decode cX7_fewestFalse 20 = .ok (.aload_n 0, 1) := by decide +kernel
theorem dX7_fewestFalse_21 : decode cX7_fewestFalse 21 = .ok (.getfield 48, 3) := by decide +kernel
theorem dX7_fewestFalse_24 : decode cX7_fewestFalse 24 = .ok (.ireturn, 1) := by decide +kernel
theorem dX7_searchFewest_0 : decode cX7_searchFewest 0 = .ok (.iconst 1, 1) := by decide +kernel
theorem dX7_searchFewest_1 : decode cX7_searchFewest 1 = .ok (.aload_n 0, 1) := by decide +kernel
theorem dX7_searchFewest_2 : decode cX7_searchFewest 2 = .ok (.getfield 22, 3) := by decide +kernel
theorem dX7_searchFewest_5 : decode cX7_searchFewest 5 = .ok (.ishl, 1) := by decide +kernel
theorem dX7_searchFewest_6 : decode cX7_searchFewest 6 = .ok (.iconst 1, 1) := by decide +kernel
theorem dX7_searchFewest_7 : decode cX7_searchFewest 7 = .ok (.isub, 1) := by decide +kernel
theorem dX7_searchFewest_8 : decode cX7_searchFewest 8 = .ok (.istore_n 1, 1) := by decide +kernel
theorem dX7_searchFewest_9 : decode cX7_searchFewest 9 = .ok (.iload_n 1, 1) := by decide +kernel
theorem dX7_searchFewest_10 : decode cX7_searchFewest 10 = .ok (.istore_n 2, 1) := by decide +kernel
theorem dX7_searchFewest_11 : decode cX7_searchFewest 11 = .ok (.aload_n 0, 1) := by decide +kernel
theorem dX7_searchFewest_12 : decode cX7_searchFewest 12 = .ok (.getfield 22, 3) := by decide +kernel
theorem dX7_searchFewest_15 : decode cX7_searchFewest 15 = .ok (.istore_n 3, 1) := by decide +kernel
theorem dX7_searchFewest_16 : decode cX7_searchFewest 16 = .ok (.iconst 0, 1) := by decide +kernel
theorem dX7_searchFewest_17 : decode cX7_searchFewest 17 = .ok (.istore 4, 2) := by decide +kernel
theorem dX7_searchFewest_19 : decode cX7_searchFewest 19 = .ok (.iload 4, 2) := by decide +kernel
theorem dX7_searchFewest_21 : decode cX7_searchFewest 21 = .ok (.iload_n 1, 1) := by decide +kernel
theorem dX7_searchFewest_22 : decode cX7_searchFewest 22 = .ok (.if_icmp .ge 41, 3) := by decide +kernel
theorem dX7_searchFewest_25 : decode cX7_searchFewest 25 = .ok (.iload 4, 2) := by decide +kernel
theorem dX7_searchFewest_27 : decode cX7_searchFewest 27 = .ok (.invokestatic 51, 3) := by decide +kernel
theorem dX7_searchFewest_30 : decode cX7_searchFewest 30 = .ok (.istore 5, 2) := by decide +kernel
theorem dX7_searchFewest_32 : decode cX7_searchFewest 32 = .ok (.iload 5, 2) := by decide +kernel
theorem dX7_searchFewest_34 : decode cX7_searchFewest 34 = .ok (.iload_n 3, 1) := by decide +kernel
theorem dX7_searchFewest_35 : decode cX7_searchFewest 35 = .ok (.if_icmp .ge 22, 3) := by decide +kernel
theorem dX7_searchFewest_38 : decode cX7_searchFewest 38 = .ok (.aload_n 0, 1) := by decide +kernel
theorem dX7_searchFewest_39 : decode cX7_searchFewest 39 = .ok (.iload_n 1, 1) := by decide +kernel
theorem dX7_searchFewest_40 : decode cX7_searchFewest 40 = .ok (.iload 4, 2) := by decide +kernel
theorem dX7_searchFewest_42 : decode cX7_searchFewest 42 = .ok (.iconst (-1), 1) := by decide +kernel
theorem dX7_searchFewest_43 : decode cX7_searchFewest 43 = .ok (.ixor, 1) := by decide +kernel
theorem dX7_searchFewest_44 : decode cX7_searchFewest 44 = .ok (.iand, 1) := by decide +kernel
theorem dX7_searchFewest_45 : decode cX7_searchFewest 45 = .ok (.invokevirtual 56, 3) := by decide +kernel
theorem dX7_searchFewest_48 : decode cX7_searchFewest 48 = .ok (.ifCond .eq 9, 3) := by decide +kernel
theorem dX7_searchFewest_51 : decode cX7_searchFewest 51 = .ok (.iload 4, 2) := by decide +kernel
theorem dX7_searchFewest_53 : decode cX7_searchFewest 53 = .ok (.istore_n 2, 1) := by decide +kernel
theorem dX7_searchFewest_54 : decode cX7_searchFewest 54 = .ok (.iload 5, 2) := by decide +kernel
theorem dX7_searchFewest_56 : decode cX7_searchFewest 56 = .ok (.istore_n 3, 1) := by decide +kernel
theorem dX7_searchFewest_57 : decode cX7_searchFewest 57 = .ok (.iinc 4 1, 3) := by decide +kernel
theorem dX7_searchFewest_60 : decode cX7_searchFewest 60 = .ok (.goto (-41), 3) := by decide +kernel
theorem dX7_searchFewest_63 : decode cX7_searchFewest 63 = .ok (.iload_n 2, 1) := by decide +kernel
theorem dX7_searchFewest_64 : decode cX7_searchFewest 64 = .ok (.ireturn, 1) := by decide +kernel
theorem dX7_isPeaceful_0 : decode cX7_isPeaceful 0 = .ok (.iconst 0, 1) := by decide +kernel
theorem dX7_isPeaceful_1 : decode cX7_isPeaceful 1 = .ok (.istore_n 2, 1) := by decide +kernel
theorem dX7_isPeaceful_2 : decode cX7_isPeaceful 2 = .ok (.iload_n 2, 1) := by decide +kernel
theorem dX7_isPeaceful_3 : decode cX7_isPeaceful 3 = .ok (.aload_n 0, 1) := by decide +kernel
theorem dX7_isPeaceful_4 : decode cX7_isPeaceful 4 = .ok (.getfield 22, 3) := by decide +kernel
theorem dX7_isPeaceful_7 : decode cX7_isPeaceful 7 = .ok (.if_icmp .ge 30, 3) := by decide +kernel
theorem dX7_isPeaceful_10 : decode cX7_isPeaceful 10 = .ok (.iload_n 1, 1) := by decide +kernel
theorem dX7_isPeaceful_11 : decode cX7_isPeaceful 11 = .ok (.iload_n 2, 1) := by decide +kernel
theorem dX7_isPeaceful_12 : decode cX7_isPeaceful 12 = .ok (.invokestatic 60, 3) := by decide +kernel
theorem dX7_isPeaceful_15 : decode cX7_isPeaceful 15 = .ok (.ifCond .eq 16, 3) := by decide +kernel
theorem dX7_isPeaceful_18 : decode cX7_isPeaceful 18 = .ok (.aload_n 0, 1) := by decide +kernel
theorem dX7_isPeaceful_19 : decode cX7_isPeaceful 19 = .ok (.getfield 19, 3) := by decide +kernel
theorem dX7_isPeaceful_22 : decode cX7_isPeaceful 22 = .ok (.iload_n 2, 1) := by decide +kernel
theorem dX7_isPeaceful_23 : decode cX7_isPeaceful 23 = .ok (.iaload, 1) := by decide +kernel
theorem dX7_isPeaceful_24 : decode cX7_isPeaceful 24 = .ok (.iload_n 1, 1) := by decide +kernel
theorem dX7_isPeaceful_25 : decode cX7_isPeaceful 25 = .ok (.iand, 1) := by decide +kernel
theorem dX7_isPeaceful_26 : decode cX7_isPeaceful 26 = .ok (.ifCond .eq 5, 3) := by decide +kernel
theorem dX7_isPeaceful_29 : decode cX7_isPeaceful 29 = .ok (.iconst 0, 1) := by decide +kernel
theorem dX7_isPeaceful_30 : decode cX7_isPeaceful 30 = .ok (.ireturn, 1) := by decide +kernel
theorem dX7_isPeaceful_31 : decode cX7_isPeaceful 31 = .ok (.iinc 2 1, 3) := by decide +kernel
theorem dX7_isPeaceful_34 : decode cX7_isPeaceful 34 = .ok (.goto (-32), 3) := by decide +kernel
theorem dX7_isPeaceful_37 : decode cX7_isPeaceful 37 = .ok (.iconst 1, 1) := by decide +kernel
theorem dX7_isPeaceful_38 : decode cX7_isPeaceful 38 = .ok (.ireturn, 1) := by decide +kernel
theorem dX8_init_0 : decode cX8_init 0 = .ok (.aload_n 0, 1) := by decide +kernel
theorem dX8_init_1 : decode cX8_init 1 = .ok (.invokespecial 1, 3) := by decide +kernel
theorem dX8_init_4 : decode cX8_init 4 = .ok (.aload_n 0, 1) := by decide +kernel
theorem dX8_init_5 : decode cX8_init 5 = .ok (.new 7, 3) := by decide +kernel
theorem dX8_init_8 : decode cX8_init 8 = .ok (.dup, 1) := by decide +kernel
theorem dX8_init_9 : decode cX8_init 9 = .ok (.invokespecial 9, 3) := by decide +kernel
theorem dX8_init_12 : decode cX8_init 12 = .ok (.putfield 10, 3) := by decide +kernel
theorem dX8_init_15 : decode cX8_init 15 = .ok (.aload_n 0, 1) := by decide +kernel
theorem dX8_init_16 : decode cX8_init 16 = .ok (.aload_n 0, 1) := by decide +kernel
theorem dX8_init_17 : decode cX8_init 17 = .ok (.getfield 10, 3) := by decide +kernel
theorem dX8_init_20 : decode cX8_init 20 = .ok (.getfield 16, 3) := by decide +kernel
theorem dX8_init_23 : decode cX8_init 23 = .ok (.putfield 20, 3) := by decide +kernel
theorem dX8_init_26 : decode cX8_init 26 = .ok (.aload_n 0, 1) := by decide +kernel
theorem dX8_init_27 : decode cX8_init 27 = .ok (.aload_n 0, 1) := by decide +kernel
theorem dX8_init_28 : decode cX8_init 28 = .ok (.getfield 20, 3) := by decide +kernel
theorem dX8_init_31 : decode cX8_init 31 = .ok (.getfield 21, 3) := by decide +kernel
theorem dX8_init_34 : decode cX8_init 34 = .ok (.putfield 27, 3) := by decide +kernel
theorem dX8_init_37 : decode cX8_init 37 = .ok (.aload_n 0, 1) := by decide +kernel
theorem dX8_init_38 : decode cX8_init 38 = .ok (.aload_n 0, 1) := by decide +kernel
theorem dX8_init_39 : decode cX8_init 39 = .ok (.getfield 20, 3) := by decide +kernel
theorem dX8_init_42 : decode cX8_init 42 = .ok (.getfield 30, 3) := by decide +kernel
theorem dX8_init_45 : decode cX8_init 45 = .ok (.putfield 34, 3) := by decide +kernel
theorem dX8_init_48 : decode cX8_init 48 = .ok (.aload_n 0, 1) := by decide +kernel
theorem dX8_init_49 : decode cX8_init 49 = .ok (.aload_n 0, 1) := by decide +kernel
theorem dX8_init_50 : decode cX8_init 50 = .ok (.getfield 20, 3) := by decide +kernel
theorem dX8_init_53 : decode cX8_init 53 = .ok (.getfield 37, 3) := by decide +kernel
theorem dX8_init_56 : decode cX8_init 56 = .ok (.putfield 41, 3) := by decide +kernel
theorem dX8_init_59 : decode cX8_init 59 = .ok (.aload_n 0, 1) := by decide +kernel
theorem dX8_init_60 : decode cX8_init 60 = .ok (.new 42, 3) := by decide +kernel
theorem dX8_init_63 : decode cX8_init 63 = .ok (.dup, 1) := by decide +kernel
theorem dX8_init_64 : decode cX8_init 64 = .ok (.invokespecial 44, 3) := by decide +kernel
theorem dX8_init_67 : decode cX8_init 67 = .ok (.putfield 45, 3) := by decide +kernel
theorem dX8_init_70 : decode cX8_init 70 = .ok (.aload_n 0, 1) := by decide +kernel
theorem dX8_init_71 : decode cX8_init 71 = .ok (.new 49, 3) := by decide +kernel
theorem dX8_init_74 : decode cX8_init 74 = .ok (.dup, 1) := by decide +kernel
theorem dX8_init_75 : decode cX8_init 75 = .ok (.invokespecial 51, 3) := by decide +kernel
theorem dX8_init_78 : decode cX8_init 78 = .ok (.putfield 52, 3) := by decide +kernel
theorem dX8_init_81 : decode cX8_init 81 = .ok (.aload_n 0, 1) := by decide +kernel
theorem dX8_init_82 : decode cX8_init 82 = .ok (.new 56, 3) := by decide +kernel
theorem dX8_init_85 : decode cX8_init 85 = .ok (.dup, 1) := by decide +kernel
theorem dX8_init_86 : decode cX8_init 86 = .ok (.invokespecial 58, 3) := by decide +kernel
theorem dX8_init_89 : decode cX8_init 89 = .ok (.putfield 59, 3) := by decide +kernel
theorem dX8_init_92 : decode cX8_init 92 = .ok (.aload_n 0, 1) := by decide +kernel
theorem dX8_init_93 : decode cX8_init 93 = .ok (.bipush 8, 2) := by decide +kernel
theorem dX8_init_95 : decode cX8_init 95 = .ok (.newarray .int, 2) := by decide +kernel
theorem dX8_init_97 : decode cX8_init 97 = .ok (.putfield 63, 3) := by decide +kernel
theorem dX8_init_100 : decode cX8_init 100 = .ok (.aload_n 0, 1) := by decide +kernel
theorem dX8_init_101 : decode cX8_init 101 = .ok (.iconst 1, 1) := by decide +kernel
theorem dX8_init_102 : decode cX8_init 102 = .ok (.putfield 67, 3) := by decide +kernel
theorem dX8_init_105 : decode cX8_init 105 = .ok (.aload_n 0, 1) := by decide +kernel
theorem dX8_init_106 : decode cX8_init 106 = .ok (.iconst 1, 1) := by decide +kernel
theorem dX8_init_107 : decode cX8_init 107 = .ok (.putfield 71, 3) := by decide +kernel
theorem dX8_init_110 : decode cX8_init 110 = .ok (.return_, 1) := by decide +kernel
theorem dX8_type_0 : decode cX8_type 0 = .ok (.iload_n 1, 1) := by decide +kernel
theorem dX8_type_1 : decode cX8_type 1 = .ok (.iconst 1, 1) := by decide +kernel
theorem dX8_type_2 : decode cX8_type 2 = .ok (.invokestatic 74, 3) := by decide +kernel
theorem dX8_type_5 : decode cX8_type 5 = .ok (.ifCond .eq 13, 3) := by decide +kernel
theorem dX8_type_8 : decode cX8_type 8 = .ok (.iload_n 2, 1) := by decide +kernel
theorem dX8_type_9 : decode cX8_type 9 = .ok (.sipush 255, 3) := by decide +kernel
theorem dX8_type_12 : decode cX8_type 12 = .ok (.invokestatic 74, 3) := by decide +kernel
theorem dX8_type_15 : decode cX8_type 15 = .ok (.ifCond .ne 6, 3) := by decide +kernel
theorem dX8_type_18 : decode cX8_type 18 = .ok (.bipush (-2), 2) := by decide +kernel
theorem dX8_type_20 : decode cX8_type 20 = .ok (.ireturn, 1) := by decide +kernel
theorem dX8_type_21 : decode cX8_type 21 = .ok (.iload_n 1, 1) := by decide +kernel
theorem dX8_type_22 : decode cX8_type 22 = .ok (.ifCond .ne 18, 3) := by decide +kernel
theorem dX8_type_25 : decode cX8_type 25 = .ok (.aload_n 0, 1) := by decide +kernel
theorem dX8_type_26 : decode cX8_type 26 = .ok (.getfield 27, 3) := by decide +kernel
theorem dX8_type_29 : decode cX8_type 29 = .ok (.getfield 78, 3) := by decide +kernel
theorem dX8_type_32 : decode cX8_type 32 = .ok (.bipush 80, 2) := by decide +kernel
theorem dX8_type_34 : decode cX8_type 34 = .ok (.if_icmp .lt 21, 3) := by decide +kernel
theorem dX8_type_37 : decode cX8_type 37 = .ok (.goto 15, 3) := by decide +kernel
theorem dX8_type_40 : decode cX8_type 40 = .ok (.aload_n 0, 1) := by decide +kernel
theorem dX8_type_41 : decode cX8_type 41 = .ok (.getfield 34, 3) := by decide +kernel
theorem dX8_type_44 : decode cX8_type 44 = .ok (.getfield 84, 3) := by decide +kernel
theorem dX8_type_47 : decode cX8_type 47 = .ok (.bipush 40, 2) := by decide +kernel
theorem dX8_type_49 : decode cX8_type 49 = .ok (.if_icmp .lt 6, 3) := by decide +kernel
theorem dX8_type_52 : decode cX8_type 52 = .ok (.bipush (-4), 2) := by decide +kernel
theorem dX8_type_54 : decode cX8_type 54 = .ok (.ireturn, 1) := by decide +kernel
theorem dX8_type_55 : decode cX8_type 55 = .ok (.aload_n 0, 1) := by decide +kernel
theorem dX8_type_56 : decode cX8_type 56 = .ok (.invokevirtual 87, 3) := by decide +kernel
theorem dX8_type_59 : decode cX8_type 59 = .ok (.iload_n 1, 1) := by decide +kernel
theorem dX8_type_60 : decode cX8_type 60 = .ok (.ifCond .ne 14, 3) := by decide +kernel
theorem dX8_type_63 : decode cX8_type 63 = .ok (.aload_n 0, 1) := by decide +kernel
theorem dX8_type_64 : decode cX8_type 64 = .ok (.getfield 27, 3) := by decide +kernel
theorem dX8_type_67 : decode cX8_type 67 = .ok (.iload_n 2, 1) := by decide +kernel
theorem dX8_type_68 : decode cX8_type 68 = .ok (.invokevirtual 90, 3) := by decide +kernel
theorem dX8_type_71 : decode cX8_type 71 = .ok (.goto 11, 3) := by decide +kernel
theorem dX8_type_74 : decode cX8_type 74 = .ok (.aload_n 0, 1) := by decide +kernel
theorem dX8_type_75 : decode cX8_type 75 = .ok (.getfield 34, 3) := by decide +kernel
theorem dX8_type_78 : decode cX8_type 78 = .ok (.iload_n 2, 1) := by decide +kernel
theorem dX8_type_79 : decode cX8_type 79 = .ok (.invokevirtual 94, 3) := by decide +kernel
theorem dX8_type_82 : decode cX8_type 82 = .ok (.ireturn, 1) := by decide +kernel
theorem dX8_wipe_0 : decode cX8_wipe 0 = .ok (.iload_n 1, 1) := by decide +kernel
theorem dX8_wipe_1 : decode cX8_wipe 1 = .ok (.iconst 1, 1) := by decide +kernel
theorem dX8_wipe_2 : decode cX8_wipe 2 = .ok (.invokestatic 74, 3) := by decide +kernel
theorem dX8_wipe_5 : decode cX8_wipe 5 = .ok (.ifCond .ne 6, 3) := by decide +kernel
theorem dX8_wipe_8 : decode cX8_wipe 8 = .ok (.bipush (-2), 2) := by decide +kernel
theorem dX8_wipe_10 : decode cX8_wipe 10 = .ok (.ireturn, 1) := by decide +kernel
theorem dX8_wipe_11 : decode cX8_wipe 11 = .ok (.aload_n 0, 1) := by decide +kernel
theorem dX8_wipe_12 : decode cX8_wipe 12 = .ok (.invokevirtual 87, 3) := by decide +kernel
theorem dX8_wipe_15 : decode cX8_wipe 15 = .ok (.iload_n 1, 1) := by decide +kernel
theorem dX8_wipe_16 : decode cX8_wipe 16 = .ok (.ifCond .ne 13, 3) := by decide +kernel
theorem dX8_wipe_19 : decode cX8_wipe 19 = .ok (.aload_n 0, 1) := by decide +kernel
theorem dX8_wipe_20 : decode cX8_wipe 20 = .ok (.getfield 27, 3) := by decide +kernel
theorem dX8_wipe_23 : decode cX8_wipe 23 = .ok (.invokevirtual 95, 3) := by decide +kernel
theorem dX8_wipe_26 : decode cX8_wipe 26 = .ok (.goto 10, 3) := by decide +kernel
theorem dX8_wipe_29 : decode cX8_wipe 29 = .ok (.aload_n 0, 1) := by decide +kernel
theorem dX8_wipe_30 : decode cX8_wipe 30 = .ok (.getfield 34, 3) := by decide +kernel
theorem dX8_wipe_33 : decode cX8_wipe 33 = .ok (.invokevirtual 99, 3) := by decide +kernel
theorem dX8_wipe_36 : decode cX8_wipe 36 = .ok (.ireturn, 1) := by decide +kernel
theorem dX8_fault_0 : decode cX8_fault 0 = .ok (.iload_n 1, 1) := by decide +kernel
theorem dX8_fault_1 : decode cX8_fault 1 = .ok (.iconst 1, 1) := by decide +kernel
theorem dX8_fault_2 : decode cX8_fault 2 = .ok (.invokestatic 74, 3) := by decide +kernel
theorem dX8_fault_5 : decode cX8_fault 5 = .ok (.ifCond .ne 6, 3) := by decide +kernel
theorem dX8_fault_8 : decode cX8_fault 8 = .ok (.bipush (-2), 2) := by decide +kernel
theorem dX8_fault_10 : decode cX8_fault 10 = .ok (.ireturn, 1) := by decide +kernel
theorem dX8_fault_11 : decode cX8_fault 11 = .ok (.iload_n 1, 1) := by decide +kernel
theorem dX8_fault_12 : decode cX8_fault 12 = .ok (.ifCond .ne 13, 3) := by decide +kernel
theorem dX8_fault_15 : decode cX8_fault 15 = .ok (.aload_n 0, 1) := by decide +kernel
theorem dX8_fault_16 : decode cX8_fault 16 = .ok (.getfield 27, 3) := by decide +kernel
theorem dX8_fault_19 : decode cX8_fault 19 = .ok (.getfield 100, 3) := by decide +kernel
theorem dX8_fault_22 : decode cX8_fault 22 = .ok (.goto 10, 3) := by decide +kernel
theorem dX8_fault_25 : decode cX8_fault 25 = .ok (.aload_n 0, 1) := by decide +kernel
theorem dX8_fault_26 : decode cX8_fault 26 = .ok (.getfield 34, 3) := by decide +kernel
theorem dX8_fault_29 : decode cX8_fault 29 = .ok (.getfield 103, 3) := by decide +kernel
theorem dX8_fault_32 : decode cX8_fault 32 = .ok (.ireturn, 1) := by decide +kernel
theorem dX8_deed_0 : decode cX8_deed 0 = .ok (.aload_n 0, 1) := by decide +kernel
theorem dX8_deed_1 : decode cX8_deed 1 = .ok (.iload_n 1, 1) := by decide +kernel
theorem dX8_deed_2 : decode cX8_deed 2 = .ok (.invokevirtual 104, 3) := by decide +kernel
theorem dX8_deed_5 : decode cX8_deed 5 = .ok (.ifCond .eq 11, 3) := by decide +kernel
theorem dX8_deed_8 : decode cX8_deed 8 = .ok (.iload_n 2, 1) := by decide +kernel
theorem dX8_deed_9 : decode cX8_deed 9 = .ok (.iconst 4, 1) := by decide +kernel
theorem dX8_deed_10 : decode cX8_deed 10 = .ok (.invokestatic 74, 3) := by decide +kernel
theorem dX8_deed_13 : decode cX8_deed 13 = .ok (.ifCond .ne 6, 3) := by decide +kernel
theorem dX8_deed_16 : decode cX8_deed 16 = .ok (.bipush (-2), 2) := by decide +kernel
theorem dX8_deed_18 : decode cX8_deed 18 = .ok (.ireturn, 1) := by decide +kernel
theorem dX8_deed_19 : decode cX8_deed 19 = .ok (.iload_n 2, 1) := by decide +kernel
theorem dX8_deed_20 : decode cX8_deed 20 = .ok (.tableswitch 72 0 3 #[32, 42, 52, 62], 32) := by decide +kernel
theorem dX8_deed_52 : decode cX8_deed 52 = .ok (.aload_n 0, 1) := by decide +kernel
theorem dX8_deed_53 : decode cX8_deed 53 = .ok (.getfield 27, 3) := by decide +kernel
theorem dX8_deed_56 : decode cX8_deed 56 = .ok (.getfield 108, 3) := by decide +kernel
theorem dX8_deed_59 : decode cX8_deed 59 = .ok (.iload_n 1, 1) := by decide +kernel
theorem dX8_deed_60 : decode cX8_deed 60 = .ok (.iaload, 1) := by decide +kernel
theorem dX8_deed_61 : decode cX8_deed 61 = .ok (.ireturn, 1) := by decide +kernel
theorem dX8_deed_62 : decode cX8_deed 62 = .ok (.aload_n 0, 1) := by decide +kernel
theorem dX8_deed_63 : decode cX8_deed 63 = .ok (.getfield 27, 3) := by decide +kernel
theorem dX8_deed_66 : decode cX8_deed 66 = .ok (.getfield 111, 3) := by decide +kernel
theorem dX8_deed_69 : decode cX8_deed 69 = .ok (.iload_n 1, 1) := by decide +kernel
theorem dX8_deed_70 : decode cX8_deed 70 = .ok (.iaload, 1) := by decide +kernel
theorem dX8_deed_71 : decode cX8_deed 71 = .ok (.ireturn, 1) := by decide +kernel
theorem dX8_deed_72 : decode cX8_deed 72 = .ok (.aload_n 0, 1) := by decide +kernel
theorem dX8_deed_73 : decode cX8_deed 73 = .ok (.getfield 27, 3) := by decide +kernel
theorem dX8_deed_76 : decode cX8_deed 76 = .ok (.getfield 114, 3) := by decide +kernel
theorem dX8_deed_79 : decode cX8_deed 79 = .ok (.iload_n 1, 1) := by decide +kernel
theorem dX8_deed_80 : decode cX8_deed 80 = .ok (.iaload, 1) := by decide +kernel
theorem dX8_deed_81 : decode cX8_deed 81 = .ok (.ireturn, 1) := by decide +kernel
theorem dX8_deed_82 : decode cX8_deed 82 = .ok (.aload_n 0, 1) := by decide +kernel
theorem dX8_deed_83 : decode cX8_deed 83 = .ok (.getfield 27, 3) := by decide +kernel
theorem dX8_deed_86 : decode cX8_deed 86 = .ok (.getfield 117, 3) := by decide +kernel
theorem dX8_deed_89 : decode cX8_deed 89 = .ok (.iload_n 1, 1) := by decide +kernel
theorem dX8_deed_90 : decode cX8_deed 90 = .ok (.iaload, 1) := by decide +kernel
theorem dX8_deed_91 : decode cX8_deed 91 = .ok (.ireturn, 1) := by decide +kernel
theorem dX8_deed_92 : decode cX8_deed 92 = .ok (.aload_n 0, 1) := by decide +kernel
theorem dX8_deed_93 : decode cX8_deed 93 = .ok (.getfield 27, 3) := by decide +kernel
theorem dX8_deed_96 : decode cX8_deed 96 = .ok (.getfield 120, 3) := by decide +kernel
theorem dX8_deed_99 : decode cX8_deed 99 = .ok (.iload_n 1, 1) := by decide +kernel
theorem dX8_deed_100 : decode cX8_deed 100 = .ok (.iaload, 1) := by decide +kernel
theorem dX8_deed_101 : decode cX8_deed 101 = .ok (.ireturn, 1) := by decide +kernel
theorem dX8_rule_0 : decode cX8_rule 0 = .ok (.iload_n 1, 1) := by decide +kernel
theorem dX8_rule_1 : decode cX8_rule 1 = .ok (.iconst 3, 1) := by decide +kernel
theorem dX8_rule_2 : decode cX8_rule 2 = .ok (.invokestatic 74, 3) := by decide +kernel
theorem dX8_rule_5 : decode cX8_rule 5 = .ok (.ifCond .eq 11, 3) := by decide +kernel
theorem dX8_rule_8 : decode cX8_rule 8 = .ok (.iload_n 2, 1) := by decide +kernel
theorem dX8_rule_9 : decode cX8_rule 9 = .ok (.iconst 2, 1) := by decide +kernel
theorem dX8_rule_10 : decode cX8_rule 10 = .ok (.invokestatic 74, 3) := by decide +kernel
theorem dX8_rule_13 : decode cX8_rule 13 = .ok (.ifCond .ne 6, 3) := by decide +kernel
theorem dX8_rule_16 : decode cX8_rule 16 = .ok (.bipush (-2), 2) := by decide +kernel
theorem dX8_rule_18 : decode cX8_rule 18 = .ok (.ireturn, 1) := by decide +kernel
theorem dX8_rule_19 : decode cX8_rule 19 = .ok (.iload_n 2, 1) := by decide +kernel
theorem dX8_rule_20 : decode cX8_rule 20 = .ok (.ifCond .ne 12, 3) := by decide +kernel
theorem dX8_rule_23 : decode cX8_rule 23 = .ok (.aload_n 0, 1) := by decide +kernel
theorem dX8_rule_24 : decode cX8_rule 24 = .ok (.getfield 34, 3) := by decide +kernel
theorem dX8_rule_27 : decode cX8_rule 27 = .ok (.iload_n 1, 1) := by decide +kernel
theorem dX8_rule_28 : decode cX8_rule 28 = .ok (.invokevirtual 123, 3) := by decide +kernel
theorem dX8_rule_31 : decode cX8_rule 31 = .ok (.ireturn, 1) := by decide +kernel
theorem dX8_rule_32 : decode cX8_rule 32 = .ok (.iload_n 2, 1) := by decide +kernel
theorem dX8_rule_33 : decode cX8_rule 33 = .ok (.iconst 1, 1) := by decide +kernel
theorem dX8_rule_34 : decode cX8_rule 34 = .ok (.if_icmp .ne 14, 3) := by decide +kernel
theorem dX8_rule_37 : decode cX8_rule 37 = .ok (.aload_n 0, 1) := by decide +kernel
theorem dX8_rule_38 : decode cX8_rule 38 = .ok (.getfield 34, 3) := by decide +kernel
theorem dX8_rule_41 : decode cX8_rule 41 = .ok (.iload_n 1, 1) := by decide +kernel
theorem dX8_rule_42 : decode cX8_rule 42 = .ok (.invokevirtual 126, 3) := by decide +kernel
theorem dX8_rule_45 : decode cX8_rule 45 = .ok (.goto 11, 3) := by decide +kernel
theorem dX8_rule_48 : decode cX8_rule 48 = .ok (.aload_n 0, 1) := by decide +kernel
theorem dX8_rule_49 : decode cX8_rule 49 = .ok (.getfield 34, 3) := by decide +kernel
theorem dX8_rule_52 : decode cX8_rule 52 = .ok (.iload_n 1, 1) := by decide +kernel
theorem dX8_rule_53 : decode cX8_rule 53 = .ok (.invokevirtual 129, 3) := by decide +kernel
theorem dX8_rule_56 : decode cX8_rule 56 = .ok (.istore_n 3, 1) := by decide +kernel
theorem dX8_rule_57 : decode cX8_rule 57 = .ok (.iload_n 3, 1) := by decide +kernel
theorem dX8_rule_58 : decode cX8_rule 58 = .ok (.ifCond .eq 7, 3) := by decide +kernel
theorem dX8_rule_61 : decode cX8_rule 61 = .ok (.iconst 1, 1) := by decide +kernel
theorem dX8_rule_62 : decode cX8_rule 62 = .ok (.goto 4, 3) := by decide +kernel
theorem dX8_rule_65 : decode cX8_rule 65 = .ok (.iconst 0, 1) := by decide +kernel
theorem dX8_rule_66 : decode cX8_rule 66 = .ok (.ireturn, 1) := by decide +kernel
theorem dX8_person_0 : decode cX8_person 0 = .ok (.iload_n 1, 1) := by decide +kernel
theorem dX8_person_1 : decode cX8_person 1 = .ok (.bipush 7, 2) := by decide +kernel
theorem dX8_person_3 : decode cX8_person 3 = .ok (.invokestatic 74, 3) := by decide +kernel
theorem dX8_person_6 : decode cX8_person 6 = .ok (.ifCond .eq 23, 3) := by decide +kernel
theorem dX8_person_9 : decode cX8_person 9 = .ok (.iload_n 2, 1) := by decide +kernel
theorem dX8_person_10 : decode cX8_person 10 = .ok (.iconst 3, 1) := by decide +kernel
theorem dX8_person_11 : decode cX8_person 11 = .ok (.invokestatic 74, 3) := by decide +kernel
theorem dX8_person_14 : decode cX8_person 14 = .ok (.ifCond .eq 15, 3) := by decide +kernel
theorem dX8_person_17 : decode cX8_person 17 = .ok (.iload_n 3, 1) := by decide +kernel
theorem dX8_person_18 : decode cX8_person 18 = .ok (.getstatic 132, 3) := by decide +kernel
theorem dX8_person_21 : decode cX8_person 21 = .ok (.iload_n 2, 1) := by decide +kernel
theorem dX8_person_22 : decode cX8_person 22 = .ok (.iaload, 1) := by decide +kernel
theorem dX8_person_23 : decode cX8_person 23 = .ok (.invokestatic 74, 3) := by decide +kernel
theorem dX8_person_26 : decode cX8_person 26 = .ok (.ifCond .ne 6, 3) := by decide +kernel
theorem dX8_person_29 : decode cX8_person 29 = .ok (.bipush (-2), 2) := by decide +kernel
theorem dX8_person_31 : decode cX8_person 31 = .ok (.ireturn, 1) := by decide +kernel
theorem dX8_person_32 : decode cX8_person 32 = .ok (.aload_n 0, 1) := by decide +kernel
theorem dX8_person_33 : decode cX8_person 33 = .ok (.invokevirtual 87, 3) := by decide +kernel
theorem dX8_person_36 : decode cX8_person 36 = .ok (.aload_n 0, 1) := by decide +kernel
theorem dX8_person_37 : decode cX8_person 37 = .ok (.getfield 41, 3) := by decide +kernel
theorem dX8_person_40 : decode cX8_person 40 = .ok (.iload_n 1, 1) := by decide +kernel
theorem dX8_person_41 : decode cX8_person 41 = .ok (.iload_n 2, 1) := by decide +kernel
theorem dX8_person_42 : decode cX8_person 42 = .ok (.iload_n 3, 1) := by decide +kernel
theorem dX8_person_43 : decode cX8_person 43 = .ok (.invokevirtual 137, 3) := by decide +kernel
theorem dX8_person_46 : decode cX8_person 46 = .ok (.ireturn, 1) := by decide +kernel
theorem dX8_weather_0 : decode cX8_weather 0 = .ok (.iload_n 1, 1) := by decide +kernel
theorem dX8_weather_1 : decode cX8_weather 1 = .ok (.bipush 7, 2) := by decide +kernel
theorem dX8_weather_3 : decode cX8_weather 3 = .ok (.invokestatic 74, 3) := by decide +kernel
theorem dX8_weather_6 : decode cX8_weather 6 = .ok (.ifCond .eq 11, 3) := by decide +kernel
theorem dX8_weather_9 : decode cX8_weather 9 = .ok (.iload_n 2, 1) := by decide +kernel
theorem dX8_weather_10 : decode cX8_weather 10 = .ok (.iconst 1, 1) := by decide +kernel
theorem dX8_weather_11 : decode cX8_weather 11 = .ok (.invokestatic 74, 3) := by decide +kernel
theorem dX8_weather_14 : decode cX8_weather 14 = .ok (.ifCond .ne 6, 3) := by decide +kernel
theorem dX8_weather_17 : decode cX8_weather 17 = .ok (.bipush (-2), 2) := by decide +kernel
theorem dX8_weather_19 : decode cX8_weather 19 = .ok (.ireturn, 1) := by decide +kernel
theorem dX8_weather_20 : decode cX8_weather 20 = .ok (.aload_n 0, 1) := by decide +kernel
theorem dX8_weather_21 : decode cX8_weather 21 = .ok (.invokevirtual 87, 3) := by decide +kernel
theorem dX8_weather_24 : decode cX8_weather 24 = .ok (.aload_n 0, 1) := by decide +kernel
theorem dX8_weather_25 : decode cX8_weather 25 = .ok (.getfield 41, 3) := by decide +kernel
theorem dX8_weather_28 : decode cX8_weather 28 = .ok (.iload_n 1, 1) := by decide +kernel
theorem dX8_weather_29 : decode cX8_weather 29 = .ok (.iload_n 2, 1) := by decide +kernel
theorem dX8_weather_30 : decode cX8_weather 30 = .ok (.invokevirtual 141, 3) := by decide +kernel
theorem dX8_weather_33 : decode cX8_weather 33 = .ok (.ireturn, 1) := by decide +kernel
theorem dX8_set_0 : decode cX8_set 0 = .ok (.iload_n 1, 1) := by decide +kernel
theorem dX8_set_1 : decode cX8_set 1 = .ok (.iconst 3, 1) := by decide +kernel
theorem dX8_set_2 : decode cX8_set 2 = .ok (.invokestatic 74, 3) := by decide +kernel
theorem dX8_set_5 : decode cX8_set 5 = .ok (.ifCond .eq 15, 3) := by decide +kernel
theorem dX8_set_8 : decode cX8_set 8 = .ok (.iload_n 2, 1) := by decide +kernel
theorem dX8_set_9 : decode cX8_set 9 = .ok (.getstatic 145, 3) := by decide +kernel
theorem dX8_set_12 : decode cX8_set 12 = .ok (.iload_n 1, 1) := by decide +kernel
theorem dX8_set_13 : decode cX8_set 13 = .ok (.iaload, 1) := by decide +kernel
theorem dX8_set_14 : decode cX8_set 14 = .ok (.invokestatic 74, 3) := by decide +kernel
theorem dX8_set_17 : decode cX8_set 17 = .ok (.ifCond .ne 6, 3) := by decide +kernel
theorem dX8_set_20 : decode cX8_set 20 = .ok (.bipush (-2), 2) := by decide +kernel
theorem dX8_set_22 : decode cX8_set 22 = .ok (.ireturn, 1) := by decide +kernel
theorem dX8_set_23 : decode cX8_set 23 = .ok (.aload_n 0, 1) := by decide +kernel
theorem dX8_set_24 : decode cX8_set 24 = .ok (.invokevirtual 87, 3) := by decide +kernel
theorem dX8_set_27 : decode cX8_set 27 = .ok (.aload_n 0, 1) := by decide +kernel
theorem dX8_set_28 : decode cX8_set 28 = .ok (.getfield 41, 3) := by decide +kernel
theorem dX8_set_31 : decode cX8_set 31 = .ok (.iload_n 1, 1) := by decide +kernel
theorem dX8_set_32 : decode cX8_set 32 = .ok (.iload_n 2, 1) := by decide +kernel
theorem dX8_set_33 : decode cX8_set 33 = .ok (.invokevirtual 148, 3) := by decide +kernel
theorem dX8_set_36 : decode cX8_set 36 = .ok (.ireturn, 1) := by decide +kernel
theorem dX8_read_0 : decode cX8_read 0 = .ok (.iload_n 1, 1) := by decide +kernel
theorem dX8_read_1 : decode cX8_read 1 = .ok (.invokestatic 151, 3) := by decide +kernel
theorem dX8_read_4 : decode cX8_read 4 = .ok (.ifCond .ne 6, 3) := by decide +kernel
theorem dX8_read_7 : decode cX8_read 7 = .ok (.bipush (-2), 2) := by decide +kernel
theorem dX8_read_9 : decode cX8_read 9 = .ok (.ireturn, 1) := by decide +kernel
theorem dX8_read_10 : decode cX8_read 10 = .ok (.aload_n 0, 1) := by decide +kernel
theorem dX8_read_11 : decode cX8_read 11 = .ok (.getfield 59, 3) := by decide +kernel
theorem dX8_read_14 : decode cX8_read 14 = .ok (.iload_n 1, 1) := by decide +kernel
theorem dX8_read_15 : decode cX8_read 15 = .ok (.invokevirtual 154, 3) := by decide +kernel
theorem dX8_read_18 : decode cX8_read 18 = .ok (.ifCond .eq 12, 3) := by decide +kernel
theorem dX8_read_21 : decode cX8_read 21 = .ok (.aload_n 0, 1) := by decide +kernel
theorem dX8_read_22 : decode cX8_read 22 = .ok (.getfield 59, 3) := by decide +kernel
theorem dX8_read_25 : decode cX8_read 25 = .ok (.iconst 1, 1) := by decide +kernel
theorem dX8_read_26 : decode cX8_read 26 = .ok (.invokevirtual 157, 3) := by decide +kernel
theorem dX8_read_29 : decode cX8_read 29 = .ok (.ireturn, 1) := by decide +kernel
theorem dX8_read_30 : decode cX8_read 30 = .ok (.aload_n 0, 1) := by decide +kernel
theorem dX8_read_31 : decode cX8_read 31 = .ok (.invokevirtual 87, 3) := by decide +kernel
theorem dX8_read_34 : decode cX8_read 34 = .ok (.bipush 8, 2) := by decide +kernel
theorem dX8_read_36 : decode cX8_read 36 = .ok (.aload_n 0, 1) := by decide +kernel
theorem dX8_read_37 : decode cX8_read 37 = .ok (.getfield 59, 3) := by decide +kernel
theorem dX8_read_40 : decode cX8_read 40 = .ok (.getfield 160, 3) := by decide +kernel
theorem dX8_read_43 : decode cX8_read 43 = .ok (.iload_n 1, 1) := by decide +kernel
theorem dX8_read_44 : decode cX8_read 44 = .ok (.iaload, 1) := by decide +kernel
theorem dX8_read_45 : decode cX8_read 45 = .ok (.invokestatic 163, 3) := by decide +kernel
theorem dX8_read_48 : decode cX8_read 48 = .ok (.istore_n 2, 1) := by decide +kernel
theorem dX8_read_49 : decode cX8_read 49 = .ok (.iconst 0, 1) := by decide +kernel
theorem dX8_read_50 : decode cX8_read 50 = .ok (.istore_n 3, 1) := by decide +kernel
theorem dX8_read_51 : decode cX8_read 51 = .ok (.iload_n 3, 1) := by decide +kernel
theorem dX8_read_52 : decode cX8_read 52 = .ok (.iload_n 2, 1) := by decide +kernel
theorem dX8_read_53 : decode cX8_read 53 = .ok (.if_icmp .ge 44, 3) := by decide +kernel
theorem dX8_read_56 : decode cX8_read 56 = .ok (.aload_n 0, 1) := by decide +kernel
theorem dX8_read_57 : decode cX8_read 57 = .ok (.getfield 59, 3) := by decide +kernel
theorem dX8_read_60 : decode cX8_read 60 = .ok (.getfield 168, 3) := by decide +kernel
theorem dX8_read_63 : decode cX8_read 63 = .ok (.iload_n 1, 1) := by decide +kernel
theorem dX8_read_64 : decode cX8_read 64 = .ok (.aaload, 1) := by decide +kernel
theorem dX8_read_65 : decode cX8_read 65 = .ok (.iload_n 3, 1) := by decide +kernel
theorem dX8_read_66 : decode cX8_read 66 = .ok (.iaload, 1) := by decide +kernel
theorem dX8_read_67 : decode cX8_read 67 = .ok (.istore 4, 2) := by decide +kernel
theorem dX8_read_69 : decode cX8_read 69 = .ok (.iload 4, 2) := by decide +kernel
theorem dX8_read_71 : decode cX8_read 71 = .ok (.iconst 1, 1) := by decide +kernel
theorem dX8_read_72 : decode cX8_read 72 = .ok (.invokestatic 74, 3) := by decide +kernel
theorem dX8_read_75 : decode cX8_read 75 = .ok (.ifCond .ne 5, 3) := by decide +kernel
theorem dX8_read_78 : decode cX8_read 78 = .ok (.iload_n 3, 1) := by decide +kernel
theorem dX8_read_79 : decode cX8_read 79 = .ok (.ireturn, 1) := by decide +kernel
theorem dX8_read_80 : decode cX8_read 80 = .ok (.aload_n 0, 1) := by decide +kernel
theorem dX8_read_81 : decode cX8_read 81 = .ok (.getfield 41, 3) := by decide +kernel
theorem dX8_read_84 : decode cX8_read 84 = .ok (.getfield 172, 3) := by decide +kernel
theorem dX8_read_87 : decode cX8_read 87 = .ok (.iload_n 3, 1) := by decide +kernel
theorem dX8_read_88 : decode cX8_read 88 = .ok (.iload 4, 2) := by decide +kernel
theorem dX8_read_90 : decode cX8_read 90 = .ok (.iastore, 1) := by decide +kernel
theorem dX8_read_91 : decode cX8_read 91 = .ok (.iinc 3 1, 3) := by decide +kernel
theorem dX8_read_94 : decode cX8_read 94 = .ok (.goto (-43), 3) := by decide +kernel
theorem dX8_read_97 : decode cX8_read 97 = .ok (.iload_n 2, 1) := by decide +kernel
theorem dX8_read_98 : decode cX8_read 98 = .ok (.ireturn, 1) := by decide +kernel
theorem dX8_can_0 : decode cX8_can 0 = .ok (.aload_n 0, 1) := by decide +kernel
theorem dX8_can_1 : decode cX8_can 1 = .ok (.iload_n 1, 1) := by decide +kernel
theorem dX8_can_2 : decode cX8_can 2 = .ok (.invokevirtual 104, 3) := by decide +kernel
theorem dX8_can_5 : decode cX8_can 5 = .ok (.ifCond .eq 12, 3) := by decide +kernel
theorem dX8_can_8 : decode cX8_can 8 = .ok (.iload_n 2, 1) := by decide +kernel
theorem dX8_can_9 : decode cX8_can 9 = .ok (.bipush 7, 2) := by decide +kernel
theorem dX8_can_11 : decode cX8_can 11 = .ok (.invokestatic 74, 3) := by decide +kernel
theorem dX8_can_14 : decode cX8_can 14 = .ok (.ifCond .ne 6, 3) := by decide +kernel
theorem dX8_can_17 : decode cX8_can 17 = .ok (.bipush (-2), 2) := by decide +kernel
theorem dX8_can_19 : decode cX8_can 19 = .ok (.ireturn, 1) := by decide +kernel
theorem dX8_can_20 : decode cX8_can 20 = .ok (.aload_n 0, 1) := by decide +kernel
theorem dX8_can_21 : decode cX8_can 21 = .ok (.invokevirtual 175, 3) := by decide +kernel
theorem dX8_can_24 : decode cX8_can 24 = .ok (.aload_n 0, 1) := by decide +kernel
theorem dX8_can_25 : decode cX8_can 25 = .ok (.getfield 20, 3) := by decide +kernel
theorem dX8_can_28 : decode cX8_can 28 = .ok (.iload_n 1, 1) := by decide +kernel
theorem dX8_can_29 : decode cX8_can 29 = .ok (.iload_n 2, 1) := by decide +kernel
theorem dX8_can_30 : decode cX8_can 30 = .ok (.invokevirtual 178, 3) := by decide +kernel
theorem dX8_can_33 : decode cX8_can 33 = .ok (.ifCond .eq 7, 3) := by decide +kernel
theorem dX8_can_36 : decode cX8_can 36 = .ok (.iconst 1, 1) := by decide +kernel
theorem dX8_can_37 : decode cX8_can 37 = .ok (.goto 4, 3) := by decide +kernel
theorem dX8_can_40 : decode cX8_can 40 = .ok (.iconst 0, 1) := by decide +kernel
theorem dX8_can_41 : decode cX8_can 41 = .ok (.ireturn, 1) := by decide +kernel
theorem dX8_hours_0 : decode cX8_hours 0 = .ok (.aload_n 0, 1) := by decide +kernel
theorem dX8_hours_1 : decode cX8_hours 1 = .ok (.iload_n 1, 1) := by decide +kernel
theorem dX8_hours_2 : decode cX8_hours 2 = .ok (.invokevirtual 104, 3) := by decide +kernel
theorem dX8_hours_5 : decode cX8_hours 5 = .ok (.ifCond .ne 6, 3) := by decide +kernel
theorem dX8_hours_8 : decode cX8_hours 8 = .ok (.bipush (-2), 2) := by decide +kernel
theorem dX8_hours_10 : decode cX8_hours 10 = .ok (.ireturn, 1) := by decide +kernel
theorem dX8_hours_11 : decode cX8_hours 11 = .ok (.aload_n 0, 1) := by decide +kernel
theorem dX8_hours_12 : decode cX8_hours 12 = .ok (.invokevirtual 175, 3) := by decide +kernel
theorem dX8_hours_15 : decode cX8_hours 15 = .ok (.aload_n 0, 1) := by decide +kernel
theorem dX8_hours_16 : decode cX8_hours 16 = .ok (.getfield 20, 3) := by decide +kernel
theorem dX8_hours_19 : decode cX8_hours 19 = .ok (.iload_n 1, 1) := by decide +kernel
theorem dX8_hours_20 : decode cX8_hours 20 = .ok (.invokevirtual 181, 3) := by decide +kernel
theorem dX8_hours_23 : decode cX8_hours 23 = .ok (.ireturn, 1) := by decide +kernel
theorem dX8_comes_0 : decode cX8_comes 0 = .ok (.aload_n 0, 1) := by decide +kernel
theorem dX8_comes_1 : decode cX8_comes 1 = .ok (.iload_n 1, 1) := by decide +kernel
theorem dX8_comes_2 : decode cX8_comes 2 = .ok (.invokevirtual 104, 3) := by decide +kernel
theorem dX8_comes_5 : decode cX8_comes 5 = .ok (.ifCond .eq 12, 3) := by decide +kernel
theorem dX8_comes_8 : decode cX8_comes 8 = .ok (.iload_n 2, 1) := by decide +kernel
theorem dX8_comes_9 : decode cX8_comes 9 = .ok (.bipush 7, 2) := by decide +kernel
theorem dX8_comes_11 : decode cX8_comes 11 = .ok (.invokestatic 74, 3) := by decide +kernel
theorem dX8_comes_14 : decode cX8_comes 14 = .ok (.ifCond .ne 6, 3) := by decide +kernel
theorem dX8_comes_17 : decode cX8_comes 17 = .ok (.bipush (-2), 2) := by decide +kernel
theorem dX8_comes_19 : decode cX8_comes 19 = .ok (.ireturn, 1) := by decide +kernel
theorem dX8_comes_20 : decode cX8_comes 20 = .ok (.aload_n 0, 1) := by decide +kernel
theorem dX8_comes_21 : decode cX8_comes 21 = .ok (.invokevirtual 175, 3) := by decide +kernel
theorem dX8_comes_24 : decode cX8_comes 24 = .ok (.aload_n 0, 1) := by decide +kernel
theorem dX8_comes_25 : decode cX8_comes 25 = .ok (.getfield 20, 3) := by decide +kernel
theorem dX8_comes_28 : decode cX8_comes 28 = .ok (.iload_n 1, 1) := by decide +kernel
theorem dX8_comes_29 : decode cX8_comes 29 = .ok (.iload_n 2, 1) := by decide +kernel
theorem dX8_comes_30 : decode cX8_comes 30 = .ok (.invokevirtual 178, 3) := by decide +kernel
theorem dX8_comes_33 : decode cX8_comes 33 = .ok (.ifCond .eq 15, 3) := by decide +kernel
theorem dX8_comes_36 : decode cX8_comes 36 = .ok (.aload_n 0, 1) := by decide +kernel
theorem dX8_comes_37 : decode cX8_comes 37 = .ok (.getfield 20, 3) := by decide +kernel
theorem dX8_comes_40 : decode cX8_comes 40 = .ok (.iload_n 1, 1) := by decide +kernel
theorem dX8_comes_41 : decode cX8_comes 41 = .ok (.iload_n 2, 1) := by decide +kernel
theorem dX8_comes_42 : decode cX8_comes 42 = .ok (.invokevirtual 184, 3) := by decide +kernel
theorem dX8_comes_45 : decode cX8_comes 45 = .ok (.goto 5, 3) := by decide +kernel
theorem dX8_comes_48 : decode cX8_comes 48 = .ok (.bipush (-3), 2) := by decide +kernel
theorem dX8_comes_50 : decode cX8_comes 50 = .ok (.ireturn, 1) := by decide +kernel
theorem dX8_costs_0 : decode cX8_costs 0 = .ok (.aload_n 0, 1) := by decide +kernel
theorem dX8_costs_1 : decode cX8_costs 1 = .ok (.iload_n 1, 1) := by decide +kernel
theorem dX8_costs_2 : decode cX8_costs 2 = .ok (.invokevirtual 104, 3) := by decide +kernel
theorem dX8_costs_5 : decode cX8_costs 5 = .ok (.ifCond .eq 12, 3) := by decide +kernel
theorem dX8_costs_8 : decode cX8_costs 8 = .ok (.iload_n 2, 1) := by decide +kernel
theorem dX8_costs_9 : decode cX8_costs 9 = .ok (.bipush 7, 2) := by decide +kernel
theorem dX8_costs_11 : decode cX8_costs 11 = .ok (.invokestatic 74, 3) := by decide +kernel
theorem dX8_costs_14 : decode cX8_costs 14 = .ok (.ifCond .ne 6, 3) := by decide +kernel
theorem dX8_costs_17 : decode cX8_costs 17 = .ok (.bipush (-2), 2) := by decide +kernel
theorem dX8_costs_19 : decode cX8_costs 19 = .ok (.ireturn, 1) := by decide +kernel
theorem dX8_costs_20 : decode cX8_costs 20 = .ok (.aload_n 0, 1) := by decide +kernel
theorem dX8_costs_21 : decode cX8_costs 21 = .ok (.invokevirtual 175, 3) := by decide +kernel
theorem dX8_costs_24 : decode cX8_costs 24 = .ok (.aload_n 0, 1) := by decide +kernel
theorem dX8_costs_25 : decode cX8_costs 25 = .ok (.getfield 20, 3) := by decide +kernel
theorem dX8_costs_28 : decode cX8_costs 28 = .ok (.iload_n 1, 1) := by decide +kernel
theorem dX8_costs_29 : decode cX8_costs 29 = .ok (.iload_n 2, 1) := by decide +kernel
theorem dX8_costs_30 : decode cX8_costs 30 = .ok (.invokevirtual 178, 3) := by decide +kernel
theorem dX8_costs_33 : decode cX8_costs 33 = .ok (.ifCond .eq 15, 3) := by decide +kernel
theorem dX8_costs_36 : decode cX8_costs 36 = .ok (.aload_n 0, 1) := by decide +kernel
theorem dX8_costs_37 : decode cX8_costs 37 = .ok (.getfield 20, 3) := by decide +kernel
theorem dX8_costs_40 : decode cX8_costs 40 = .ok (.iload_n 1, 1) := by decide +kernel
theorem dX8_costs_41 : decode cX8_costs 41 = .ok (.iload_n 2, 1) := by decide +kernel
theorem dX8_costs_42 : decode cX8_costs 42 = .ok (.invokevirtual 187, 3) := by decide +kernel
theorem dX8_costs_45 : decode cX8_costs 45 = .ok (.goto 5, 3) := by decide +kernel
theorem dX8_costs_48 : decode cX8_costs 48 = .ok (.bipush (-3), 2) := by decide +kernel
theorem dX8_costs_50 : decode cX8_costs 50 = .ok (.ireturn, 1) := by decide +kernel
theorem dX8_most_0 : decode cX8_most 0 = .ok (.iload_n 1, 1) := by decide +kernel
theorem dX8_most_1 : decode cX8_most 1 = .ok (.iconst 1, 1) := by decide +kernel
theorem dX8_most_2 : decode cX8_most 2 = .ok (.invokestatic 74, 3) := by decide +kernel
theorem dX8_most_5 : decode cX8_most 5 = .ok (.ifCond .ne 6, 3) := by decide +kernel
theorem dX8_most_8 : decode cX8_most 8 = .ok (.bipush (-2), 2) := by decide +kernel
theorem dX8_most_10 : decode cX8_most 10 = .ok (.ireturn, 1) := by decide +kernel
theorem dX8_most_11 : decode cX8_most 11 = .ok (.aload_n 0, 1) := by decide +kernel
theorem dX8_most_12 : decode cX8_most 12 = .ok (.invokevirtual 190, 3) := by decide +kernel
theorem dX8_most_15 : decode cX8_most 15 = .ok (.iload_n 1, 1) := by decide +kernel
theorem dX8_most_16 : decode cX8_most 16 = .ok (.ifCond .ne 13, 3) := by decide +kernel
theorem dX8_most_19 : decode cX8_most 19 = .ok (.aload_n 0, 1) := by decide +kernel
theorem dX8_most_20 : decode cX8_most 20 = .ok (.getfield 10, 3) := by decide +kernel
theorem dX8_most_23 : decode cX8_most 23 = .ok (.getfield 193, 3) := by decide +kernel
theorem dX8_most_26 : decode cX8_most 26 = .ok (.goto 10, 3) := by decide +kernel
theorem dX8_most_29 : decode cX8_most 29 = .ok (.aload_n 0, 1) := by decide +kernel
theorem dX8_most_30 : decode cX8_most 30 = .ok (.getfield 10, 3) := by decide +kernel
theorem dX8_most_33 : decode cX8_most 33 = .ok (.getfield 195, 3) := by decide +kernel
theorem dX8_most_36 : decode cX8_most 36 = .ok (.ireturn, 1) := by decide +kernel
theorem dX8_when_0 : decode cX8_when 0 = .ok (.aload_n 0, 1) := by decide +kernel
theorem dX8_when_1 : decode cX8_when 1 = .ok (.iload_n 1, 1) := by decide +kernel
theorem dX8_when_2 : decode cX8_when 2 = .ok (.invokevirtual 104, 3) := by decide +kernel
theorem dX8_when_5 : decode cX8_when 5 = .ok (.ifCond .ne 6, 3) := by decide +kernel
theorem dX8_when_8 : decode cX8_when 8 = .ok (.bipush (-2), 2) := by decide +kernel
theorem dX8_when_10 : decode cX8_when 10 = .ok (.ireturn, 1) := by decide +kernel
theorem dX8_when_11 : decode cX8_when 11 = .ok (.aload_n 0, 1) := by decide +kernel
theorem dX8_when_12 : decode cX8_when 12 = .ok (.invokevirtual 190, 3) := by decide +kernel
theorem dX8_when_15 : decode cX8_when 15 = .ok (.aload_n 0, 1) := by decide +kernel
theorem dX8_when_16 : decode cX8_when 16 = .ok (.getfield 10, 3) := by decide +kernel
theorem dX8_when_19 : decode cX8_when 19 = .ok (.getfield 198, 3) := by decide +kernel
theorem dX8_when_22 : decode cX8_when 22 = .ok (.iload_n 1, 1) := by decide +kernel
theorem dX8_when_23 : decode cX8_when 23 = .ok (.iaload, 1) := by decide +kernel
theorem dX8_when_24 : decode cX8_when 24 = .ok (.ireturn, 1) := by decide +kernel
theorem dX8_plan_0 : decode cX8_plan 0 = .ok (.iload_n 1, 1) := by decide +kernel
theorem dX8_plan_1 : decode cX8_plan 1 = .ok (.invokestatic 151, 3) := by decide +kernel
theorem dX8_plan_4 : decode cX8_plan 4 = .ok (.ifCond .eq 11, 3) := by decide +kernel
theorem dX8_plan_7 : decode cX8_plan 7 = .ok (.iload_n 2, 1) := by decide +kernel
theorem dX8_plan_8 : decode cX8_plan 8 = .ok (.iconst 2, 1) := by decide +kernel
theorem dX8_plan_9 : decode cX8_plan 9 = .ok (.invokestatic 74, 3) := by decide +kernel
theorem dX8_plan_12 : decode cX8_plan 12 = .ok (.ifCond .ne 6, 3) := by decide +kernel
theorem dX8_plan_15 : decode cX8_plan 15 = .ok (.bipush (-2), 2) := by decide +kernel
theorem dX8_plan_17 : decode cX8_plan 17 = .ok (.ireturn, 1) := by decide +kernel
theorem dX8_plan_18 : decode cX8_plan 18 = .ok (.aload_n 0, 1) := by decide +kernel
theorem dX8_plan_19 : decode cX8_plan 19 = .ok (.getfield 59, 3) := by decide +kernel
theorem dX8_plan_22 : decode cX8_plan 22 = .ok (.iload_n 1, 1) := by decide +kernel
theorem dX8_plan_23 : decode cX8_plan 23 = .ok (.invokevirtual 154, 3) := by decide +kernel
theorem dX8_plan_26 : decode cX8_plan 26 = .ok (.ifCond .eq 12, 3) := by decide +kernel
theorem dX8_plan_29 : decode cX8_plan 29 = .ok (.aload_n 0, 1) := by decide +kernel
theorem dX8_plan_30 : decode cX8_plan 30 = .ok (.getfield 59, 3) := by decide +kernel
theorem dX8_plan_33 : decode cX8_plan 33 = .ok (.iconst 1, 1) := by decide +kernel
theorem dX8_plan_34 : decode cX8_plan 34 = .ok (.invokevirtual 157, 3) := by decide +kernel
theorem dX8_plan_37 : decode cX8_plan 37 = .ok (.ireturn, 1) := by decide +kernel
theorem dX8_plan_38 : decode cX8_plan 38 = .ok (.aload_n 0, 1) := by decide +kernel
theorem dX8_plan_39 : decode cX8_plan 39 = .ok (.invokevirtual 175, 3) := by decide +kernel
theorem dX8_plan_42 : decode cX8_plan 42 = .ok (.aload_n 0, 1) := by decide +kernel
theorem dX8_plan_43 : decode cX8_plan 43 = .ok (.getfield 59, 3) := by decide +kernel
theorem dX8_plan_46 : decode cX8_plan 46 = .ok (.getfield 160, 3) := by decide +kernel
theorem dX8_plan_49 : decode cX8_plan 49 = .ok (.iload_n 1, 1) := by decide +kernel
theorem dX8_plan_50 : decode cX8_plan 50 = .ok (.iaload, 1) := by decide +kernel
theorem dX8_plan_51 : decode cX8_plan 51 = .ok (.aload_n 0, 1) := by decide +kernel
theorem dX8_plan_52 : decode cX8_plan 52 = .ok (.getfield 27, 3) := by decide +kernel
theorem dX8_plan_55 : decode cX8_plan 55 = .ok (.getfield 201, 3) := by decide +kernel
theorem dX8_plan_58 : decode cX8_plan 58 = .ok (.if_icmp .ge 6, 3) := by decide +kernel
theorem dX8_plan_61 : decode cX8_plan 61 = .ok (.bipush (-3), 2) := by decide +kernel
theorem dX8_plan_63 : decode cX8_plan 63 = .ok (.ireturn, 1) := by decide +kernel
theorem dX8_plan_64 : decode cX8_plan 64 = .ok (.iconst 0, 1) := by decide +kernel
theorem dX8_plan_65 : decode cX8_plan 65 = .ok (.istore_n 3, 1) := by decide +kernel
theorem dX8_plan_66 : decode cX8_plan 66 = .ok (.iload_n 3, 1) := by decide +kernel
theorem dX8_plan_67 : decode cX8_plan 67 = .ok (.aload_n 0, 1) := by decide +kernel
theorem dX8_plan_68 : decode cX8_plan 68 = .ok (.getfield 27, 3) := by decide +kernel
theorem dX8_plan_71 : decode cX8_plan 71 = .ok (.getfield 201, 3) := by decide +kernel
theorem dX8_plan_74 : decode cX8_plan 74 = .ok (.if_icmp .ge 26, 3) := by decide +kernel
theorem dX8_plan_77 : decode cX8_plan 77 = .ok (.aload_n 0, 1) := by decide +kernel
theorem dX8_plan_78 : decode cX8_plan 78 = .ok (.getfield 63, 3) := by decide +kernel
theorem dX8_plan_81 : decode cX8_plan 81 = .ok (.iload_n 3, 1) := by decide +kernel
theorem dX8_plan_82 : decode cX8_plan 82 = .ok (.aload_n 0, 1) := by decide +kernel
theorem dX8_plan_83 : decode cX8_plan 83 = .ok (.getfield 59, 3) := by decide +kernel
theorem dX8_plan_86 : decode cX8_plan 86 = .ok (.getfield 168, 3) := by decide +kernel
theorem dX8_plan_89 : decode cX8_plan 89 = .ok (.iload_n 1, 1) := by decide +kernel
theorem dX8_plan_90 : decode cX8_plan 90 = .ok (.aaload, 1) := by decide +kernel
theorem dX8_plan_91 : decode cX8_plan 91 = .ok (.iload_n 3, 1) := by decide +kernel
theorem dX8_plan_92 : decode cX8_plan 92 = .ok (.iaload, 1) := by decide +kernel
theorem dX8_plan_93 : decode cX8_plan 93 = .ok (.iastore, 1) := by decide +kernel
theorem dX8_plan_94 : decode cX8_plan 94 = .ok (.iinc 3 1, 3) := by decide +kernel
theorem dX8_plan_97 : decode cX8_plan 97 = .ok (.goto (-31), 3) := by decide +kernel
theorem dX8_plan_100 : decode cX8_plan 100 = .ok (.aload_n 0, 1) := by decide +kernel
theorem dX8_plan_101 : decode cX8_plan 101 = .ok (.getfield 20, 3) := by decide +kernel
theorem dX8_plan_104 : decode cX8_plan 104 = .ok (.aload_n 0, 1) := by decide +kernel
theorem dX8_plan_105 : decode cX8_plan 105 = .ok (.getfield 63, 3) := by decide +kernel
theorem dX8_plan_108 : decode cX8_plan 108 = .ok (.invokevirtual 203, 3) := by decide +kernel
theorem dX8_plan_111 : decode cX8_plan 111 = .ok (.istore_n 3, 1) := by decide +kernel
theorem dX8_plan_112 : decode cX8_plan 112 = .ok (.iload_n 2, 1) := by decide +kernel
theorem dX8_plan_113 : decode cX8_plan 113 = .ok (.ifCond .ne 13, 3) := by decide +kernel
theorem dX8_plan_116 : decode cX8_plan 116 = .ok (.iload_n 3, 1) := by decide +kernel
theorem dX8_plan_117 : decode cX8_plan 117 = .ok (.ifCond .eq 7, 3) := by decide +kernel
theorem dX8_plan_120 : decode cX8_plan 120 = .ok (.iconst 1, 1) := by decide +kernel
theorem dX8_plan_121 : decode cX8_plan 121 = .ok (.goto 4, 3) := by decide +kernel
theorem dX8_plan_124 : decode cX8_plan 124 = .ok (.iconst 0, 1) := by decide +kernel
theorem dX8_plan_125 : decode cX8_plan 125 = .ok (.ireturn, 1) := by decide +kernel
theorem dX8_plan_126 : decode cX8_plan 126 = .ok (.iload_n 3, 1) := by decide +kernel
theorem dX8_plan_127 : decode cX8_plan 127 = .ok (.ifCond .ne 6, 3) := by decide +kernel
theorem dX8_plan_130 : decode cX8_plan 130 = .ok (.bipush (-3), 2) := by decide +kernel
theorem dX8_plan_132 : decode cX8_plan 132 = .ok (.ireturn, 1) := by decide +kernel
theorem dX8_plan_133 : decode cX8_plan 133 = .ok (.iload_n 2, 1) := by decide +kernel
theorem dX8_plan_134 : decode cX8_plan 134 = .ok (.iconst 1, 1) := by decide +kernel
theorem dX8_plan_135 : decode cX8_plan 135 = .ok (.if_icmp .ne 17, 3) := by decide +kernel
theorem dX8_plan_138 : decode cX8_plan 138 = .ok (.aload_n 0, 1) := by decide +kernel
theorem dX8_plan_139 : decode cX8_plan 139 = .ok (.getfield 20, 3) := by decide +kernel
theorem dX8_plan_142 : decode cX8_plan 142 = .ok (.aload_n 0, 1) := by decide +kernel
theorem dX8_plan_143 : decode cX8_plan 143 = .ok (.getfield 63, 3) := by decide +kernel
theorem dX8_plan_146 : decode cX8_plan 146 = .ok (.invokevirtual 207, 3) := by decide +kernel
theorem dX8_plan_149 : decode cX8_plan 149 = .ok (.goto 14, 3) := by decide +kernel
theorem dX8_plan_152 : decode cX8_plan 152 = .ok (.aload_n 0, 1) := by decide +kernel
theorem dX8_plan_153 : decode cX8_plan 153 = .ok (.getfield 20, 3) := by decide +kernel
theorem dX8_plan_156 : decode cX8_plan 156 = .ok (.aload_n 0, 1) := by decide +kernel
theorem dX8_plan_157 : decode cX8_plan 157 = .ok (.getfield 63, 3) := by decide +kernel
theorem dX8_plan_160 : decode cX8_plan 160 = .ok (.invokevirtual 211, 3) := by decide +kernel
theorem dX8_plan_163 : decode cX8_plan 163 = .ok (.ireturn, 1) := by decide +kernel
theorem dX8_asked_0 : decode cX8_asked 0 = .ok (.iload_n 1, 1) := by decide +kernel
theorem dX8_asked_1 : decode cX8_asked 1 = .ok (.bipush 7, 2) := by decide +kernel
theorem dX8_asked_3 : decode cX8_asked 3 = .ok (.invokestatic 74, 3) := by decide +kernel
theorem dX8_asked_6 : decode cX8_asked 6 = .ok (.ifCond .eq 12, 3) := by decide +kernel
theorem dX8_asked_9 : decode cX8_asked 9 = .ok (.iload_n 2, 1) := by decide +kernel
theorem dX8_asked_10 : decode cX8_asked 10 = .ok (.bipush 7, 2) := by decide +kernel
theorem dX8_asked_12 : decode cX8_asked 12 = .ok (.invokestatic 74, 3) := by decide +kernel
theorem dX8_asked_15 : decode cX8_asked 15 = .ok (.ifCond .ne 6, 3) := by decide +kernel
theorem dX8_asked_18 : decode cX8_asked 18 = .ok (.bipush (-2), 2) := by decide +kernel
theorem dX8_asked_20 : decode cX8_asked 20 = .ok (.ireturn, 1) := by decide +kernel
theorem dX8_asked_21 : decode cX8_asked 21 = .ok (.aload_n 0, 1) := by decide +kernel
theorem dX8_asked_22 : decode cX8_asked 22 = .ok (.invokevirtual 175, 3) := by decide +kernel
theorem dX8_asked_25 : decode cX8_asked 25 = .ok (.aload_n 0, 1) := by decide +kernel
theorem dX8_asked_26 : decode cX8_asked 26 = .ok (.getfield 20, 3) := by decide +kernel
theorem dX8_asked_29 : decode cX8_asked 29 = .ok (.iload_n 1, 1) := by decide +kernel
theorem dX8_asked_30 : decode cX8_asked 30 = .ok (.iload_n 2, 1) := by decide +kernel
theorem dX8_asked_31 : decode cX8_asked 31 = .ok (.invokevirtual 214, 3) := by decide +kernel
theorem dX8_asked_34 : decode cX8_asked 34 = .ok (.ireturn, 1) := by decide +kernel
theorem dX8_crowd_0 : decode cX8_crowd 0 = .ok (.iload_n 1, 1) := by decide +kernel
theorem dX8_crowd_1 : decode cX8_crowd 1 = .ok (.iconst 2, 1) := by decide +kernel
theorem dX8_crowd_2 : decode cX8_crowd 2 = .ok (.invokestatic 74, 3) := by decide +kernel
theorem dX8_crowd_5 : decode cX8_crowd 5 = .ok (.ifCond .ne 6, 3) := by decide +kernel
theorem dX8_crowd_8 : decode cX8_crowd 8 = .ok (.bipush (-2), 2) := by decide +kernel
theorem dX8_crowd_10 : decode cX8_crowd 10 = .ok (.ireturn, 1) := by decide +kernel
theorem dX8_crowd_11 : decode cX8_crowd 11 = .ok (.aload_n 0, 1) := by decide +kernel
theorem dX8_crowd_12 : decode cX8_crowd 12 = .ok (.invokevirtual 175, 3) := by decide +kernel
theorem dX8_crowd_15 : decode cX8_crowd 15 = .ok (.iconst (-1), 1) := by decide +kernel
theorem dX8_crowd_16 : decode cX8_crowd 16 = .ok (.istore_n 2, 1) := by decide +kernel
theorem dX8_crowd_17 : decode cX8_crowd 17 = .ok (.iconst (-1), 1) := by decide +kernel
theorem dX8_crowd_18 : decode cX8_crowd 18 = .ok (.istore_n 3, 1) := by decide +kernel
theorem dX8_crowd_19 : decode cX8_crowd 19 = .ok (.iconst 0, 1) := by decide +kernel
theorem dX8_crowd_20 : decode cX8_crowd 20 = .ok (.istore 4, 2) := by decide +kernel
theorem dX8_crowd_22 : decode cX8_crowd 22 = .ok (.iconst 0, 1) := by decide +kernel
theorem dX8_crowd_23 : decode cX8_crowd 23 = .ok (.istore 5, 2) := by decide +kernel
theorem dX8_crowd_25 : decode cX8_crowd 25 = .ok (.iload 5, 2) := by decide +kernel
theorem dX8_crowd_27 : decode cX8_crowd 27 = .ok (.bipush 8, 2) := by decide +kernel
theorem dX8_crowd_29 : decode cX8_crowd 29 = .ok (.if_icmp .ge 55, 3) := by decide +kernel
theorem dX8_crowd_32 : decode cX8_crowd 32 = .ok (.iconst 0, 1) := by decide +kernel
theorem dX8_crowd_33 : decode cX8_crowd 33 = .ok (.istore 6, 2) := by decide +kernel
theorem dX8_crowd_35 : decode cX8_crowd 35 = .ok (.iload 6, 2) := by decide +kernel
theorem dX8_crowd_37 : decode cX8_crowd 37 = .ok (.bipush 8, 2) := by decide +kernel
theorem dX8_crowd_39 : decode cX8_crowd 39 = .ok (.if_icmp .ge 39, 3) := by decide +kernel
theorem dX8_crowd_42 : decode cX8_crowd 42 = .ok (.aload_n 0, 1) := by decide +kernel
theorem dX8_crowd_43 : decode cX8_crowd 43 = .ok (.getfield 20, 3) := by decide +kernel
theorem dX8_crowd_46 : decode cX8_crowd 46 = .ok (.iload 5, 2) := by decide +kernel
theorem dX8_crowd_48 : decode cX8_crowd 48 = .ok (.iload 6, 2) := by decide +kernel
theorem dX8_crowd_50 : decode cX8_crowd 50 = .ok (.invokevirtual 214, 3) := by decide +kernel
theorem dX8_crowd_53 : decode cX8_crowd 53 = .ok (.istore 7, 2) := by decide +kernel
theorem dX8_crowd_55 : decode cX8_crowd 55 = .ok (.iload 7, 2) := by decide +kernel
theorem dX8_crowd_57 : decode cX8_crowd 57 = .ok (.iload 4, 2) := by decide +kernel
theorem dX8_crowd_59 : decode cX8_crowd 59 = .ok (.if_icmp .le 13, 3) := by decide +kernel
theorem dX8_crowd_62 : decode cX8_crowd 62 = .ok (.iload 5, 2) := by decide +kernel
theorem dX8_crowd_64 : decode cX8_crowd 64 = .ok (.istore_n 2, 1) := by decide +kernel
theorem dX8_crowd_65 : decode cX8_crowd 65 = .ok (.iload 6, 2) := by decide +kernel
theorem dX8_crowd_67 : decode cX8_crowd 67 = .ok (.istore_n 3, 1) := by decide +kernel
theorem dX8_crowd_68 : decode cX8_crowd 68 = .ok (.iload 7, 2) := by decide +kernel
theorem dX8_crowd_70 : decode cX8_crowd 70 = .ok (.istore 4, 2) := by decide +kernel
theorem dX8_crowd_72 : decode cX8_crowd 72 = .ok (.iinc 6 1, 3) := by decide +kernel
theorem dX8_crowd_75 : decode cX8_crowd 75 = .ok (.goto (-40), 3) := by decide +kernel
theorem dX8_crowd_78 : decode cX8_crowd 78 = .ok (.iinc 5 1, 3) := by decide +kernel
theorem dX8_crowd_81 : decode cX8_crowd 81 = .ok (.goto (-56), 3) := by decide +kernel
theorem dX8_crowd_84 : decode cX8_crowd 84 = .ok (.iload_n 1, 1) := by decide +kernel
theorem dX8_crowd_85 : decode cX8_crowd 85 = .ok (.ifCond .ne 5, 3) := by decide +kernel
theorem dX8_crowd_88 : decode cX8_crowd 88 = .ok (.iload_n 2, 1) := by decide +kernel
theorem dX8_crowd_89 : decode cX8_crowd 89 = .ok (.ireturn, 1) := by decide +kernel
theorem dX8_crowd_90 : decode cX8_crowd 90 = .ok (.iload_n 1, 1) := by decide +kernel
theorem dX8_crowd_91 : decode cX8_crowd 91 = .ok (.iconst 1, 1) := by decide +kernel
theorem dX8_crowd_92 : decode cX8_crowd 92 = .ok (.if_icmp .ne 7, 3) := by decide +kernel
theorem dX8_crowd_95 : decode cX8_crowd 95 = .ok (.iload_n 3, 1) := by decide +kernel
theorem dX8_crowd_96 : decode cX8_crowd 96 = .ok (.goto 5, 3) := by decide +kernel
theorem dX8_crowd_99 : decode cX8_crowd 99 = .ok (.iload 4, 2) := by decide +kernel
theorem dX8_crowd_101 : decode cX8_crowd 101 = .ok (.ireturn, 1) := by decide +kernel
theorem dX8_likeness_0 : decode cX8_likeness 0 = .ok (.aload_n 0, 1) := by decide +kernel
theorem dX8_likeness_1 : decode cX8_likeness 1 = .ok (.iload_n 1, 1) := by decide +kernel
theorem dX8_likeness_2 : decode cX8_likeness 2 = .ok (.invokevirtual 104, 3) := by decide +kernel
theorem dX8_likeness_5 : decode cX8_likeness 5 = .ok (.ifCond .eq 12, 3) := by decide +kernel
theorem dX8_likeness_8 : decode cX8_likeness 8 = .ok (.iload_n 2, 1) := by decide +kernel
theorem dX8_likeness_9 : decode cX8_likeness 9 = .ok (.bipush 7, 2) := by decide +kernel
theorem dX8_likeness_11 : decode cX8_likeness 11 = .ok (.invokestatic 74, 3) := by decide +kernel
theorem dX8_likeness_14 : decode cX8_likeness 14 = .ok (.ifCond .ne 6, 3) := by decide +kernel
theorem dX8_likeness_17 : decode cX8_likeness 17 = .ok (.bipush (-2), 2) := by decide +kernel
theorem dX8_likeness_19 : decode cX8_likeness 19 = .ok (.ireturn, 1) := by decide +kernel
theorem dX8_likeness_20 : decode cX8_likeness 20 = .ok (.aload_n 0, 1) := by decide +kernel
theorem dX8_likeness_21 : decode cX8_likeness 21 = .ok (.invokevirtual 175, 3) := by decide +kernel
theorem dX8_likeness_24 : decode cX8_likeness 24 = .ok (.aload_n 0, 1) := by decide +kernel
theorem dX8_likeness_25 : decode cX8_likeness 25 = .ok (.getfield 20, 3) := by decide +kernel
theorem dX8_likeness_28 : decode cX8_likeness 28 = .ok (.iload_n 1, 1) := by decide +kernel
theorem dX8_likeness_29 : decode cX8_likeness 29 = .ok (.iload_n 2, 1) := by decide +kernel
theorem dX8_likeness_30 : decode cX8_likeness 30 = .ok (.invokevirtual 178, 3) := by decide +kernel
theorem dX8_likeness_33 : decode cX8_likeness 33 = .ok (.ifCond .eq 15, 3) := by decide +kernel
theorem dX8_likeness_36 : decode cX8_likeness 36 = .ok (.aload_n 0, 1) := by decide +kernel
theorem dX8_likeness_37 : decode cX8_likeness 37 = .ok (.getfield 20, 3) := by decide +kernel
theorem dX8_likeness_40 : decode cX8_likeness 40 = .ok (.iload_n 1, 1) := by decide +kernel
theorem dX8_likeness_41 : decode cX8_likeness 41 = .ok (.iload_n 2, 1) := by decide +kernel
theorem dX8_likeness_42 : decode cX8_likeness 42 = .ok (.invokevirtual 217, 3) := by decide +kernel
theorem dX8_likeness_45 : decode cX8_likeness 45 = .ok (.goto 5, 3) := by decide +kernel
theorem dX8_likeness_48 : decode cX8_likeness 48 = .ok (.bipush (-3), 2) := by decide +kernel
theorem dX8_likeness_50 : decode cX8_likeness 50 = .ok (.ireturn, 1) := by decide +kernel
theorem dX8_odds_0 : decode cX8_odds 0 = .ok (.aload_n 0, 1) := by decide +kernel
theorem dX8_odds_1 : decode cX8_odds 1 = .ok (.iload_n 1, 1) := by decide +kernel
theorem dX8_odds_2 : decode cX8_odds 2 = .ok (.invokevirtual 104, 3) := by decide +kernel
theorem dX8_odds_5 : decode cX8_odds 5 = .ok (.ifCond .eq 20, 3) := by decide +kernel
theorem dX8_odds_8 : decode cX8_odds 8 = .ok (.iload_n 2, 1) := by decide +kernel
theorem dX8_odds_9 : decode cX8_odds 9 = .ok (.bipush 7, 2) := by decide +kernel
theorem dX8_odds_11 : decode cX8_odds 11 = .ok (.invokestatic 74, 3) := by decide +kernel
theorem dX8_odds_14 : decode cX8_odds 14 = .ok (.ifCond .eq 11, 3) := by decide +kernel
theorem dX8_odds_17 : decode cX8_odds 17 = .ok (.iload_n 3, 1) := by decide +kernel
theorem dX8_odds_18 : decode cX8_odds 18 = .ok (.iconst 1, 1) := by decide +kernel
theorem dX8_odds_19 : decode cX8_odds 19 = .ok (.invokestatic 74, 3) := by decide +kernel
theorem dX8_odds_22 : decode cX8_odds 22 = .ok (.ifCond .ne 9, 3) := by decide +kernel
theorem dX8_odds_25 : decode cX8_odds 25 = .ok (.bipush (-2), 2) := by decide +kernel
theorem dX8_odds_27 : decode cX8_odds 27 = .ok (.invokestatic 220, 3) := by decide +kernel
theorem dX8_odds_30 : decode cX8_odds 30 = .ok (.lreturn, 1) := by decide +kernel
theorem dX8_odds_31 : decode cX8_odds 31 = .ok (.aload_n 0, 1) := by decide +kernel
theorem dX8_odds_32 : decode cX8_odds 32 = .ok (.invokevirtual 175, 3) := by decide +kernel
theorem dX8_odds_35 : decode cX8_odds 35 = .ok (.aload_n 0, 1) := by decide +kernel
theorem dX8_odds_36 : decode cX8_odds 36 = .ok (.getfield 20, 3) := by decide +kernel
theorem dX8_odds_39 : decode cX8_odds 39 = .ok (.iload_n 1, 1) := by decide +kernel
theorem dX8_odds_40 : decode cX8_odds 40 = .ok (.iload_n 2, 1) := by decide +kernel
theorem dX8_odds_41 : decode cX8_odds 41 = .ok (.invokevirtual 178, 3) := by decide +kernel
theorem dX8_odds_44 : decode cX8_odds 44 = .ok (.ifCond .ne 9, 3) := by decide +kernel
theorem dX8_odds_47 : decode cX8_odds 47 = .ok (.bipush (-3), 2) := by decide +kernel
theorem dX8_odds_49 : decode cX8_odds 49 = .ok (.invokestatic 220, 3) := by decide +kernel
theorem dX8_odds_52 : decode cX8_odds 52 = .ok (.lreturn, 1) := by decide +kernel
theorem dX8_odds_53 : decode cX8_odds 53 = .ok (.iconst 1, 1) := by decide +kernel
theorem dX8_odds_54 : decode cX8_odds 54 = .ok (.istore 4, 2) := by decide +kernel
theorem dX8_odds_56 : decode cX8_odds 56 = .ok (.iconst 1, 1) := by decide +kernel
theorem dX8_odds_57 : decode cX8_odds 57 = .ok (.istore 5, 2) := by decide +kernel
theorem dX8_odds_59 : decode cX8_odds 59 = .ok (.aload_n 0, 1) := by decide +kernel
theorem dX8_odds_60 : decode cX8_odds 60 = .ok (.getfield 20, 3) := by decide +kernel
theorem dX8_odds_63 : decode cX8_odds 63 = .ok (.iload_n 1, 1) := by decide +kernel
theorem dX8_odds_64 : decode cX8_odds 64 = .ok (.iload_n 2, 1) := by decide +kernel
theorem dX8_odds_65 : decode cX8_odds 65 = .ok (.invokevirtual 217, 3) := by decide +kernel
theorem dX8_odds_68 : decode cX8_odds 68 = .ok (.aload_n 0, 1) := by decide +kernel
theorem dX8_odds_69 : decode cX8_odds 69 = .ok (.getfield 41, 3) := by decide +kernel
theorem dX8_odds_72 : decode cX8_odds 72 = .ok (.getfield 224, 3) := by decide +kernel
theorem dX8_odds_75 : decode cX8_odds 75 = .ok (.iconst 3, 1) := by decide +kernel
theorem dX8_odds_76 : decode cX8_odds 76 = .ok (.iaload, 1) := by decide +kernel
theorem dX8_odds_77 : decode cX8_odds 77 = .ok (.if_icmp .ge 65, 3) := by decide +kernel
theorem dX8_odds_80 : decode cX8_odds 80 = .ok (.aload_n 0, 1) := by decide +kernel
theorem dX8_odds_81 : decode cX8_odds 81 = .ok (.getfield 20, 3) := by decide +kernel
theorem dX8_odds_84 : decode cX8_odds 84 = .ok (.iload_n 1, 1) := by decide +kernel
theorem dX8_odds_85 : decode cX8_odds 85 = .ok (.iload_n 2, 1) := by decide +kernel
theorem dX8_odds_86 : decode cX8_odds 86 = .ok (.invokevirtual 184, 3) := by decide +kernel
theorem dX8_odds_89 : decode cX8_odds 89 = .ok (.istore 6, 2) := by decide +kernel
theorem dX8_odds_91 : decode cX8_odds 91 = .ok (.iconst 0, 1) := by decide +kernel
theorem dX8_odds_92 : decode cX8_odds 92 = .ok (.istore 7, 2) := by decide +kernel
theorem dX8_odds_94 : decode cX8_odds 94 = .ok (.iload 7, 2) := by decide +kernel
theorem dX8_odds_96 : decode cX8_odds 96 = .ok (.bipush 8, 2) := by decide +kernel
theorem dX8_odds_98 : decode cX8_odds 98 = .ok (.if_icmp .ge 44, 3) := by decide +kernel
theorem dX8_odds_101 : decode cX8_odds 101 = .ok (.iload 6, 2) := by decide +kernel
theorem dX8_odds_103 : decode cX8_odds 103 = .ok (.iload 7, 2) := by decide +kernel
theorem dX8_odds_105 : decode cX8_odds 105 = .ok (.invokestatic 227, 3) := by decide +kernel
theorem dX8_odds_108 : decode cX8_odds 108 = .ok (.ifCond .eq 28, 3) := by decide +kernel
theorem dX8_odds_111 : decode cX8_odds 111 = .ok (.iload 4, 2) := by decide +kernel
theorem dX8_odds_113 : decode cX8_odds 113 = .ok (.bipush 16, 2) := by decide +kernel
theorem dX8_odds_115 : decode cX8_odds 115 = .ok (.aload_n 0, 1) := by decide +kernel
theorem dX8_odds_116 : decode cX8_odds 116 = .ok (.getfield 41, 3) := by decide +kernel
theorem dX8_odds_119 : decode cX8_odds 119 = .ok (.iload 7, 2) := by decide +kernel
theorem dX8_odds_121 : decode cX8_odds 121 = .ok (.iconst 3, 1) := by decide +kernel
theorem dX8_odds_122 : decode cX8_odds 122 = .ok (.invokevirtual 230, 3) := by decide +kernel
theorem dX8_odds_125 : decode cX8_odds 125 = .ok (.isub, 1) := by decide +kernel
theorem dX8_odds_126 : decode cX8_odds 126 = .ok (.imul, 1) := by decide +kernel
theorem dX8_odds_127 : decode cX8_odds 127 = .ok (.istore 4, 2) := by decide +kernel
theorem dX8_odds_129 : decode cX8_odds 129 = .ok (.iload 5, 2) := by decide +kernel
theorem dX8_odds_131 : decode cX8_odds 131 = .ok (.bipush 16, 2) := by decide +kernel
theorem dX8_odds_133 : decode cX8_odds 133 = .ok (.imul, 1) := by decide +kernel
theorem dX8_odds_134 : decode cX8_odds 134 = .ok (.istore 5, 2) := by decide +kernel
theorem dX8_odds_136 : decode cX8_odds 136 = .ok (.iinc 7 1, 3) := by decide +kernel
theorem dX8_odds_139 : decode cX8_odds 139 = .ok (.goto (-45), 3) := by decide +kernel
theorem dX8_odds_142 : decode cX8_odds 142 = .ok (.iload 4, 2) := by decide +kernel
theorem dX8_odds_144 : decode cX8_odds 144 = .ok (.iload 5, 2) := by decide +kernel
theorem dX8_odds_146 : decode cX8_odds 146 = .ok (.iload_n 3, 1) := by decide +kernel
theorem dX8_odds_147 : decode cX8_odds 147 = .ok (.invokestatic 233, 3) := by decide +kernel
theorem dX8_odds_150 : decode cX8_odds 150 = .ok (.lreturn, 1) := by decide +kernel
theorem dX8_seen_0 : decode cX8_seen 0 = .ok (.iload_n 1, 1) := by decide +kernel
theorem dX8_seen_1 : decode cX8_seen 1 = .ok (.bipush 7, 2) := by decide +kernel
theorem dX8_seen_3 : decode cX8_seen 3 = .ok (.invokestatic 74, 3) := by decide +kernel
theorem dX8_seen_6 : decode cX8_seen 6 = .ok (.ifCond .eq 20, 3) := by decide +kernel
theorem dX8_seen_9 : decode cX8_seen 9 = .ok (.iload_n 2, 1) := by decide +kernel
theorem dX8_seen_10 : decode cX8_seen 10 = .ok (.iconst 5, 1) := by decide +kernel
theorem dX8_seen_11 : decode cX8_seen 11 = .ok (.invokestatic 74, 3) := by decide +kernel
theorem dX8_seen_14 : decode cX8_seen 14 = .ok (.ifCond .eq 12, 3) := by decide +kernel
theorem dX8_seen_17 : decode cX8_seen 17 = .ok (.iload_n 3, 1) := by decide +kernel
theorem dX8_seen_18 : decode cX8_seen 18 = .ok (.bipush 7, 2) := by decide +kernel
theorem dX8_seen_20 : decode cX8_seen 20 = .ok (.invokestatic 74, 3) := by decide +kernel
theorem dX8_seen_23 : decode cX8_seen 23 = .ok (.ifCond .ne 6, 3) := by decide +kernel
theorem dX8_seen_26 : decode cX8_seen 26 = .ok (.bipush (-2), 2) := by decide +kernel
theorem dX8_seen_28 : decode cX8_seen 28 = .ok (.ireturn, 1) := by decide +kernel
theorem dX8_seen_29 : decode cX8_seen 29 = .ok (.aload_n 0, 1) := by decide +kernel
theorem dX8_seen_30 : decode cX8_seen 30 = .ok (.getfield 45, 3) := by decide +kernel
theorem dX8_seen_33 : decode cX8_seen 33 = .ok (.invokevirtual 237, 3) := by decide +kernel
theorem dX8_seen_36 : decode cX8_seen 36 = .ok (.ifCond .eq 8, 3) := by decide +kernel
theorem dX8_seen_39 : decode cX8_seen 39 = .ok (.bipush (-4), 2) := by decide +kernel
theorem dX8_seen_41 : decode cX8_seen 41 = .ok (.goto 13, 3) := by decide +kernel
theorem dX8_seen_44 : decode cX8_seen 44 = .ok (.aload_n 0, 1) := by decide +kernel
theorem dX8_seen_45 : decode cX8_seen 45 = .ok (.getfield 45, 3) := by decide +kernel
theorem dX8_seen_48 : decode cX8_seen 48 = .ok (.iload_n 1, 1) := by decide +kernel
theorem dX8_seen_49 : decode cX8_seen 49 = .ok (.iload_n 2, 1) := by decide +kernel
theorem dX8_seen_50 : decode cX8_seen 50 = .ok (.iload_n 3, 1) := by decide +kernel
theorem dX8_seen_51 : decode cX8_seen 51 = .ok (.invokevirtual 241, 3) := by decide +kernel
theorem dX8_seen_54 : decode cX8_seen 54 = .ok (.ireturn, 1) := by decide +kernel
theorem dX8_isFalse_0 : decode cX8_isFalse 0 = .ok (.iload_n 1, 1) := by decide +kernel
theorem dX8_isFalse_1 : decode cX8_isFalse 1 = .ok (.aload_n 0, 1) := by decide +kernel
theorem dX8_isFalse_2 : decode cX8_isFalse 2 = .ok (.getfield 45, 3) := by decide +kernel
theorem dX8_isFalse_5 : decode cX8_isFalse 5 = .ok (.getfield 244, 3) := by decide +kernel
theorem dX8_isFalse_8 : decode cX8_isFalse 8 = .ok (.iconst 1, 1) := by decide +kernel
theorem dX8_isFalse_9 : decode cX8_isFalse 9 = .ok (.isub, 1) := by decide +kernel
theorem dX8_isFalse_10 : decode cX8_isFalse 10 = .ok (.invokestatic 74, 3) := by decide +kernel
theorem dX8_isFalse_13 : decode cX8_isFalse 13 = .ok (.ifCond .eq 24, 3) := by decide +kernel
theorem dX8_isFalse_16 : decode cX8_isFalse 16 = .ok (.iload_n 2, 1) := by decide +kernel
theorem dX8_isFalse_17 : decode cX8_isFalse 17 = .ok (.aload_n 0, 1) := by decide +kernel
theorem dX8_isFalse_18 : decode cX8_isFalse 18 = .ok (.getfield 45, 3) := by decide +kernel
theorem dX8_isFalse_21 : decode cX8_isFalse 21 = .ok (.getfield 244, 3) := by decide +kernel
theorem dX8_isFalse_24 : decode cX8_isFalse 24 = .ok (.iconst 1, 1) := by decide +kernel
theorem dX8_isFalse_25 : decode cX8_isFalse 25 = .ok (.isub, 1) := by decide +kernel
theorem dX8_isFalse_26 : decode cX8_isFalse 26 = .ok (.invokestatic 74, 3) := by decide +kernel
theorem dX8_isFalse_29 : decode cX8_isFalse 29 = .ok (.ifCond .eq 8, 3) := by decide +kernel
theorem dX8_isFalse_32 : decode cX8_isFalse 32 = .ok (.iload_n 1, 1) := by decide +kernel
theorem dX8_isFalse_33 : decode cX8_isFalse 33 = .ok (.iload_n 2, 1) := by decide +kernel
theorem dX8_isFalse_34 : decode cX8_isFalse 34 = .ok (.if_icmp .ne 6, 3) := by decide +kernel
theorem dX8_isFalse_37 : decode cX8_isFalse 37 = .ok (.bipush (-2), 2) := by decide +kernel
theorem dX8_isFalse_39 : decode cX8_isFalse 39 = .ok (.ireturn, 1) := by decide +kernel
theorem dX8_isFalse_40 : decode cX8_isFalse 40 = .ok (.aload_n 0, 1) := by decide +kernel
theorem dX8_isFalse_41 : decode cX8_isFalse 41 = .ok (.getfield 45, 3) := by decide +kernel
theorem dX8_isFalse_44 : decode cX8_isFalse 44 = .ok (.iload_n 1, 1) := by decide +kernel
theorem dX8_isFalse_45 : decode cX8_isFalse 45 = .ok (.iload_n 2, 1) := by decide +kernel
theorem dX8_isFalse_46 : decode cX8_isFalse 46 = .ok (.invokevirtual 245, 3) := by decide +kernel
theorem dX8_isFalse_49 : decode cX8_isFalse 49 = .ok (.ifCond .eq 7, 3) := by decide +kernel
theorem dX8_isFalse_52 : decode cX8_isFalse 52 = .ok (.iconst 1, 1) := by decide +kernel
theorem dX8_isFalse_53 : decode cX8_isFalse 53 = .ok (.goto 4, 3) := by decide +kernel
theorem dX8_isFalse_56 : decode cX8_isFalse 56 = .ok (.iconst 0, 1) := by decide +kernel
theorem dX8_isFalse_57 : decode cX8_isFalse 57 = .ok (.ireturn, 1) := by decide +kernel
theorem dX8_hats_0 : decode cX8_hats 0 = .ok (.iload_n 1, 1) := by decide +kernel
theorem dX8_hats_1 : decode cX8_hats 1 = .ok (.iconst 1, 1) := by decide +kernel
theorem dX8_hats_2 : decode cX8_hats 2 = .ok (.invokestatic 74, 3) := by decide +kernel
theorem dX8_hats_5 : decode cX8_hats 5 = .ok (.ifCond .ne 6, 3) := by decide +kernel
theorem dX8_hats_8 : decode cX8_hats 8 = .ok (.bipush (-2), 2) := by decide +kernel
theorem dX8_hats_10 : decode cX8_hats 10 = .ok (.ireturn, 1) := by decide +kernel
theorem dX8_hats_11 : decode cX8_hats 11 = .ok (.aload_n 0, 1) := by decide +kernel
theorem dX8_hats_12 : decode cX8_hats 12 = .ok (.getfield 45, 3) := by decide +kernel
theorem dX8_hats_15 : decode cX8_hats 15 = .ok (.invokevirtual 248, 3) := by decide +kernel
theorem dX8_hats_18 : decode cX8_hats 18 = .ok (.istore_n 2, 1) := by decide +kernel
theorem dX8_hats_19 : decode cX8_hats 19 = .ok (.iload_n 1, 1) := by decide +kernel
theorem dX8_hats_20 : decode cX8_hats 20 = .ok (.ifCond .ne 10, 3) := by decide +kernel
theorem dX8_hats_23 : decode cX8_hats 23 = .ok (.iload_n 2, 1) := by decide +kernel
theorem dX8_hats_24 : decode cX8_hats 24 = .ok (.invokestatic 251, 3) := by decide +kernel
theorem dX8_hats_27 : decode cX8_hats 27 = .ok (.goto 4, 3) := by decide +kernel
theorem dX8_hats_30 : decode cX8_hats 30 = .ok (.iload_n 2, 1) := by decide +kernel
theorem dX8_hats_31 : decode cX8_hats 31 = .ok (.ireturn, 1) := by decide +kernel
theorem dX8_after_0 : decode cX8_after 0 = .ok (.iload_n 1, 1) := by decide +kernel
theorem dX8_after_1 : decode cX8_after 1 = .ok (.bipush 7, 2) := by decide +kernel
theorem dX8_after_3 : decode cX8_after 3 = .ok (.invokestatic 74, 3) := by decide +kernel
theorem dX8_after_6 : decode cX8_after 6 = .ok (.ifCond .eq 17, 3) := by decide +kernel
theorem dX8_after_9 : decode cX8_after 9 = .ok (.iload_n 2, 1) := by decide +kernel
theorem dX8_after_10 : decode cX8_after 10 = .ok (.bipush 7, 2) := by decide +kernel
theorem dX8_after_12 : decode cX8_after 12 = .ok (.invokestatic 74, 3) := by decide +kernel
theorem dX8_after_15 : decode cX8_after 15 = .ok (.ifCond .eq 8, 3) := by decide +kernel
theorem dX8_after_18 : decode cX8_after 18 = .ok (.iload_n 1, 1) := by decide +kernel
theorem dX8_after_19 : decode cX8_after 19 = .ok (.iload_n 2, 1) := by decide +kernel
theorem dX8_after_20 : decode cX8_after 20 = .ok (.if_icmp .ne 6, 3) := by decide +kernel
theorem dX8_after_23 : decode cX8_after 23 = .ok (.bipush (-2), 2) := by decide +kernel
theorem dX8_after_25 : decode cX8_after 25 = .ok (.ireturn, 1) := by decide +kernel
theorem dX8_after_26 : decode cX8_after 26 = .ok (.aload_n 0, 1) := by decide +kernel
theorem dX8_after_27 : decode cX8_after 27 = .ok (.getfield 52, 3) := by decide +kernel
theorem dX8_after_30 : decode cX8_after 30 = .ok (.invokevirtual 256, 3) := by decide +kernel
theorem dX8_after_33 : decode cX8_after 33 = .ok (.ifCond .eq 8, 3) := by decide +kernel
theorem dX8_after_36 : decode cX8_after 36 = .ok (.bipush (-4), 2) := by decide +kernel
theorem dX8_after_38 : decode cX8_after 38 = .ok (.goto 12, 3) := by decide +kernel
theorem dX8_after_41 : decode cX8_after 41 = .ok (.aload_n 0, 1) := by decide +kernel
theorem dX8_after_42 : decode cX8_after 42 = .ok (.getfield 52, 3) := by decide +kernel
theorem dX8_after_45 : decode cX8_after 45 = .ok (.iload_n 1, 1) := by decide +kernel
theorem dX8_after_46 : decode cX8_after 46 = .ok (.iload_n 2, 1) := by decide +kernel
theorem dX8_after_47 : decode cX8_after 47 = .ok (.invokevirtual 257, 3) := by decide +kernel
theorem dX8_after_50 : decode cX8_after 50 = .ok (.ireturn, 1) := by decide +kernel
theorem dX8_forget_0 : decode cX8_forget 0 = .ok (.iload_n 1, 1) := by decide +kernel
theorem dX8_forget_1 : decode cX8_forget 1 = .ok (.iconst 1, 1) := by decide +kernel
theorem dX8_forget_2 : decode cX8_forget 2 = .ok (.invokestatic 74, 3) := by decide +kernel
theorem dX8_forget_5 : decode cX8_forget 5 = .ok (.ifCond .ne 6, 3) := by decide +kernel
theorem dX8_forget_8 : decode cX8_forget 8 = .ok (.bipush (-2), 2) := by decide +kernel
theorem dX8_forget_10 : decode cX8_forget 10 = .ok (.ireturn, 1) := by decide +kernel
theorem dX8_forget_11 : decode cX8_forget 11 = .ok (.iload_n 1, 1) := by decide +kernel
theorem dX8_forget_12 : decode cX8_forget 12 = .ok (.ifCond .ne 13, 3) := by decide +kernel
theorem dX8_forget_15 : decode cX8_forget 15 = .ok (.aload_n 0, 1) := by decide +kernel
theorem dX8_forget_16 : decode cX8_forget 16 = .ok (.getfield 45, 3) := by decide +kernel
theorem dX8_forget_19 : decode cX8_forget 19 = .ok (.invokevirtual 259, 3) := by decide +kernel
theorem dX8_forget_22 : decode cX8_forget 22 = .ok (.goto 10, 3) := by decide +kernel
theorem dX8_forget_25 : decode cX8_forget 25 = .ok (.aload_n 0, 1) := by decide +kernel
theorem dX8_forget_26 : decode cX8_forget 26 = .ok (.getfield 52, 3) := by decide +kernel
theorem dX8_forget_29 : decode cX8_forget 29 = .ok (.invokevirtual 260, 3) := by decide +kernel
theorem dX8_forget_32 : decode cX8_forget 32 = .ok (.ireturn, 1) := by decide +kernel
theorem dX8_spared_0 : decode cX8_spared 0 = .ok (.iload_n 1, 1) := by decide +kernel
theorem dX8_spared_1 : decode cX8_spared 1 = .ok (.aload_n 0, 1) := by decide +kernel
theorem dX8_spared_2 : decode cX8_spared 2 = .ok (.getfield 27, 3) := by decide +kernel
theorem dX8_spared_5 : decode cX8_spared 5 = .ok (.invokevirtual 261, 3) := by decide +kernel
theorem dX8_spared_8 : decode cX8_spared 8 = .ok (.invokestatic 74, 3) := by decide +kernel
theorem dX8_spared_11 : decode cX8_spared 11 = .ok (.ifCond .ne 6, 3) := by decide +kernel
theorem dX8_spared_14 : decode cX8_spared 14 = .ok (.bipush (-2), 2) := by decide +kernel
theorem dX8_spared_16 : decode cX8_spared 16 = .ok (.ireturn, 1) := by decide +kernel
theorem dX8_spared_17 : decode cX8_spared 17 = .ok (.aload_n 0, 1) := by decide +kernel
theorem dX8_spared_18 : decode cX8_spared 18 = .ok (.iload_n 1, 1) := by decide +kernel
theorem dX8_spared_19 : decode cX8_spared 19 = .ok (.invokevirtual 264, 3) := by decide +kernel
theorem dX8_spared_22 : decode cX8_spared 22 = .ok (.ireturn, 1) := by decide +kernel
theorem dX8_best_0 : decode cX8_best 0 = .ok (.iconst (-1), 1) := by decide +kernel
theorem dX8_best_1 : decode cX8_best 1 = .ok (.istore_n 1, 1) := by decide +kernel
theorem dX8_best_2 : decode cX8_best 2 = .ok (.iconst 0, 1) := by decide +kernel
theorem dX8_best_3 : decode cX8_best 3 = .ok (.istore_n 2, 1) := by decide +kernel
theorem dX8_best_4 : decode cX8_best 4 = .ok (.iconst 0, 1) := by decide +kernel
theorem dX8_best_5 : decode cX8_best 5 = .ok (.istore_n 3, 1) := by decide +kernel
theorem dX8_best_6 : decode cX8_best 6 = .ok (.iload_n 3, 1) := by decide +kernel
theorem dX8_best_7 : decode cX8_best 7 = .ok (.aload_n 0, 1) := by decide +kernel
theorem dX8_best_8 : decode cX8_best 8 = .ok (.getfield 27, 3) := by decide +kernel
theorem dX8_best_11 : decode cX8_best 11 = .ok (.getfield 201, 3) := by decide +kernel
theorem dX8_best_14 : decode cX8_best 14 = .ok (.if_icmp .ge 39, 3) := by decide +kernel
theorem dX8_best_17 : decode cX8_best 17 = .ok (.aload_n 0, 1) := by decide +kernel
theorem dX8_best_18 : decode cX8_best 18 = .ok (.getfield 27, 3) := by decide +kernel
theorem dX8_best_21 : decode cX8_best 21 = .ok (.getfield 117, 3) := by decide +kernel
theorem dX8_best_24 : decode cX8_best 24 = .ok (.iload_n 3, 1) := by decide +kernel
theorem dX8_best_25 : decode cX8_best 25 = .ok (.iaload, 1) := by decide +kernel
theorem dX8_best_26 : decode cX8_best 26 = .ok (.aload_n 0, 1) := by decide +kernel
theorem dX8_best_27 : decode cX8_best 27 = .ok (.iconst 1, 1) := by decide +kernel
theorem dX8_best_28 : decode cX8_best 28 = .ok (.iload_n 3, 1) := by decide +kernel
theorem dX8_best_29 : decode cX8_best 29 = .ok (.ishl, 1) := by decide +kernel
theorem dX8_best_30 : decode cX8_best 30 = .ok (.invokevirtual 264, 3) := by decide +kernel
theorem dX8_best_33 : decode cX8_best 33 = .ok (.iadd, 1) := by decide +kernel
theorem dX8_best_34 : decode cX8_best 34 = .ok (.istore 4, 2) := by decide +kernel
theorem dX8_best_36 : decode cX8_best 36 = .ok (.iload 4, 2) := by decide +kernel
theorem dX8_best_38 : decode cX8_best 38 = .ok (.iload_n 2, 1) := by decide +kernel
theorem dX8_best_39 : decode cX8_best 39 = .ok (.if_icmp .le 8, 3) := by decide +kernel
theorem dX8_best_42 : decode cX8_best 42 = .ok (.iload_n 3, 1) := by decide +kernel
theorem dX8_best_43 : decode cX8_best 43 = .ok (.istore_n 1, 1) := by decide +kernel
theorem dX8_best_44 : decode cX8_best 44 = .ok (.iload 4, 2) := by decide +kernel
theorem dX8_best_46 : decode cX8_best 46 = .ok (.istore_n 2, 1) := by decide +kernel
theorem dX8_best_47 : decode cX8_best 47 = .ok (.iinc 3 1, 3) := by decide +kernel
theorem dX8_best_50 : decode cX8_best 50 = .ok (.goto (-44), 3) := by decide +kernel
theorem dX8_best_53 : decode cX8_best 53 = .ok (.iload_n 1, 1) := by decide +kernel
theorem dX8_best_54 : decode cX8_best 54 = .ok (.ireturn, 1) := by decide +kernel
theorem dX8_regrets_0 : decode cX8_regrets 0 = .ok (.iload_n 1, 1) := by decide +kernel
theorem dX8_regrets_1 : decode cX8_regrets 1 = .ok (.bipush 8, 2) := by decide +kernel
theorem dX8_regrets_3 : decode cX8_regrets 3 = .ok (.invokestatic 74, 3) := by decide +kernel
theorem dX8_regrets_6 : decode cX8_regrets 6 = .ok (.ifCond .eq 11, 3) := by decide +kernel
theorem dX8_regrets_9 : decode cX8_regrets 9 = .ok (.iload_n 2, 1) := by decide +kernel
theorem dX8_regrets_10 : decode cX8_regrets 10 = .ok (.iconst 1, 1) := by decide +kernel
theorem dX8_regrets_11 : decode cX8_regrets 11 = .ok (.invokestatic 74, 3) := by decide +kernel
theorem dX8_regrets_14 : decode cX8_regrets 14 = .ok (.ifCond .ne 9, 3) := by decide +kernel
theorem dX8_regrets_17 : decode cX8_regrets 17 = .ok (.bipush (-2), 2) := by decide +kernel
theorem dX8_regrets_19 : decode cX8_regrets 19 = .ok (.invokestatic 220, 3) := by decide +kernel
theorem dX8_regrets_22 : decode cX8_regrets 22 = .ok (.lreturn, 1) := by decide +kernel
theorem dX8_regrets_23 : decode cX8_regrets 23 = .ok (.aload_n 0, 1) := by decide +kernel
theorem dX8_regrets_24 : decode cX8_regrets 24 = .ok (.invokevirtual 175, 3) := by decide +kernel
theorem dX8_regrets_27 : decode cX8_regrets 27 = .ok (.iload_n 1, 1) := by decide +kernel
theorem dX8_regrets_28 : decode cX8_regrets 28 = .ok (.aload_n 0, 1) := by decide +kernel
theorem dX8_regrets_29 : decode cX8_regrets 29 = .ok (.getfield 27, 3) := by decide +kernel
theorem dX8_regrets_32 : decode cX8_regrets 32 = .ok (.getfield 201, 3) := by decide +kernel
theorem dX8_regrets_35 : decode cX8_regrets 35 = .ok (.if_icmp .le 9, 3) := by decide +kernel
theorem dX8_regrets_38 : decode cX8_regrets 38 = .ok (.bipush (-3), 2) := by decide +kernel
theorem dX8_regrets_40 : decode cX8_regrets 40 = .ok (.invokestatic 220, 3) := by decide +kernel
theorem dX8_regrets_43 : decode cX8_regrets 43 = .ok (.lreturn, 1) := by decide +kernel
theorem dX8_regrets_44 : decode cX8_regrets 44 = .ok (.aload_n 0, 1) := by decide +kernel
theorem dX8_regrets_45 : decode cX8_regrets 45 = .ok (.getfield 27, 3) := by decide +kernel
theorem dX8_regrets_48 : decode cX8_regrets 48 = .ok (.getfield 201, 3) := by decide +kernel
theorem dX8_regrets_51 : decode cX8_regrets 51 = .ok (.aload_n 0, 1) := by decide +kernel
theorem dX8_regrets_52 : decode cX8_regrets 52 = .ok (.getfield 20, 3) := by decide +kernel
theorem dX8_regrets_55 : decode cX8_regrets 55 = .ok (.invokevirtual 267, 3) := by decide +kernel
theorem dX8_regrets_58 : decode cX8_regrets 58 = .ok (.invokestatic 251, 3) := by decide +kernel
theorem dX8_regrets_61 : decode cX8_regrets 61 = .ok (.isub, 1) := by decide +kernel
theorem dX8_regrets_62 : decode cX8_regrets 62 = .ok (.istore_n 3, 1) := by decide +kernel
theorem dX8_regrets_63 : decode cX8_regrets 63 = .ok (.iconst 1, 1) := by decide +kernel
theorem dX8_regrets_64 : decode cX8_regrets 64 = .ok (.istore 4, 2) := by decide +kernel
theorem dX8_regrets_66 : decode cX8_regrets 66 = .ok (.iconst 1, 1) := by decide +kernel
theorem dX8_regrets_67 : decode cX8_regrets 67 = .ok (.istore 5, 2) := by decide +kernel
theorem dX8_regrets_69 : decode cX8_regrets 69 = .ok (.iconst 0, 1) := by decide +kernel
theorem dX8_regrets_70 : decode cX8_regrets 70 = .ok (.istore 6, 2) := by decide +kernel
theorem dX8_regrets_72 : decode cX8_regrets 72 = .ok (.iload 6, 2) := by decide +kernel
theorem dX8_regrets_74 : decode cX8_regrets 74 = .ok (.iload_n 1, 1) := by decide +kernel
theorem dX8_regrets_75 : decode cX8_regrets 75 = .ok (.if_icmp .ge 37, 3) := by decide +kernel
theorem dX8_regrets_78 : decode cX8_regrets 78 = .ok (.iload 4, 2) := by decide +kernel
theorem dX8_regrets_80 : decode cX8_regrets 80 = .ok (.iconst 0, 1) := by decide +kernel
theorem dX8_regrets_81 : decode cX8_regrets 81 = .ok (.iload_n 3, 1) := by decide +kernel
theorem dX8_regrets_82 : decode cX8_regrets 82 = .ok (.iload 6, 2) := by decide +kernel
theorem dX8_regrets_84 : decode cX8_regrets 84 = .ok (.isub, 1) := by decide +kernel
theorem dX8_regrets_85 : decode cX8_regrets 85 = .ok (.invokestatic 270, 3) := by decide +kernel
theorem dX8_regrets_88 : decode cX8_regrets 88 = .ok (.imul, 1) := by decide +kernel
theorem dX8_regrets_89 : decode cX8_regrets 89 = .ok (.istore 4, 2) := by decide +kernel
theorem dX8_regrets_91 : decode cX8_regrets 91 = .ok (.iload 5, 2) := by decide +kernel
theorem dX8_regrets_93 : decode cX8_regrets 93 = .ok (.aload_n 0, 1) := by decide +kernel
theorem dX8_regrets_94 : decode cX8_regrets 94 = .ok (.getfield 27, 3) := by decide +kernel
theorem dX8_regrets_97 : decode cX8_regrets 97 = .ok (.getfield 201, 3) := by decide +kernel
theorem dX8_regrets_100 : decode cX8_regrets 100 = .ok (.iload 6, 2) := by decide +kernel
theorem dX8_regrets_102 : decode cX8_regrets 102 = .ok (.isub, 1) := by decide +kernel
theorem dX8_regrets_103 : decode cX8_regrets 103 = .ok (.imul, 1) := by decide +kernel
theorem dX8_regrets_104 : decode cX8_regrets 104 = .ok (.istore 5, 2) := by decide +kernel
theorem dX8_regrets_106 : decode cX8_regrets 106 = .ok (.iinc 6 1, 3) := by decide +kernel
theorem dX8_regrets_109 : decode cX8_regrets 109 = .ok (.goto (-37), 3) := by decide +kernel
theorem dX8_regrets_112 : decode cX8_regrets 112 = .ok (.iload 4, 2) := by decide +kernel
theorem dX8_regrets_114 : decode cX8_regrets 114 = .ok (.iload 5, 2) := by decide +kernel
theorem dX8_regrets_116 : decode cX8_regrets 116 = .ok (.iload_n 2, 1) := by decide +kernel
theorem dX8_regrets_117 : decode cX8_regrets 117 = .ok (.invokestatic 233, 3) := by decide +kernel
theorem dX8_regrets_120 : decode cX8_regrets 120 = .ok (.lreturn, 1) := by decide +kernel
theorem dX8_sheet_0 : decode cX8_sheet 0 = .ok (.iload_n 1, 1) := by decide +kernel
theorem dX8_sheet_1 : decode cX8_sheet 1 = .ok (.invokestatic 151, 3) := by decide +kernel
theorem dX8_sheet_4 : decode cX8_sheet 4 = .ok (.ifCond .eq 16, 3) := by decide +kernel
theorem dX8_sheet_7 : decode cX8_sheet 7 = .ok (.iload_n 2, 1) := by decide +kernel
theorem dX8_sheet_8 : decode cX8_sheet 8 = .ok (.invokestatic 273, 3) := by decide +kernel
theorem dX8_sheet_11 : decode cX8_sheet 11 = .ok (.ifCond .eq 9, 3) := by decide +kernel
theorem dX8_sheet_14 : decode cX8_sheet 14 = .ok (.iload_n 3, 1) := by decide +kernel
theorem dX8_sheet_15 : decode cX8_sheet 15 = .ok (.bipush 60, 2) := by decide +kernel
theorem dX8_sheet_17 : decode cX8_sheet 17 = .ok (.if_icmp .le 6, 3) := by decide +kernel
theorem dX8_sheet_20 : decode cX8_sheet 20 = .ok (.bipush (-2), 2) := by decide +kernel
theorem dX8_sheet_22 : decode cX8_sheet 22 = .ok (.ireturn, 1) := by decide +kernel
theorem dX8_sheet_23 : decode cX8_sheet 23 = .ok (.iload_n 3, 1) := by decide +kernel
theorem dX8_sheet_24 : decode cX8_sheet 24 = .ok (.ifCond .ge 14, 3) := by decide +kernel
theorem dX8_sheet_27 : decode cX8_sheet 27 = .ok (.aload_n 0, 1) := by decide +kernel
theorem dX8_sheet_28 : decode cX8_sheet 28 = .ok (.getfield 59, 3) := by decide +kernel
theorem dX8_sheet_31 : decode cX8_sheet 31 = .ok (.iconst 5, 1) := by decide +kernel
theorem dX8_sheet_32 : decode cX8_sheet 32 = .ok (.invokevirtual 157, 3) := by decide +kernel
theorem dX8_sheet_35 : decode cX8_sheet 35 = .ok (.goto 13, 3) := by decide +kernel
theorem dX8_sheet_38 : decode cX8_sheet 38 = .ok (.aload_n 0, 1) := by decide +kernel
theorem dX8_sheet_39 : decode cX8_sheet 39 = .ok (.getfield 59, 3) := by decide +kernel
theorem dX8_sheet_42 : decode cX8_sheet 42 = .ok (.iload_n 1, 1) := by decide +kernel
theorem dX8_sheet_43 : decode cX8_sheet 43 = .ok (.iload_n 2, 1) := by decide +kernel
theorem dX8_sheet_44 : decode cX8_sheet 44 = .ok (.iload_n 3, 1) := by decide +kernel
theorem dX8_sheet_45 : decode cX8_sheet 45 = .ok (.invokevirtual 276, 3) := by decide +kernel
theorem dX8_sheet_48 : decode cX8_sheet 48 = .ok (.ireturn, 1) := by decide +kernel
theorem dX8_lose_0 : decode cX8_lose 0 = .ok (.iload_n 1, 1) := by decide +kernel
theorem dX8_lose_1 : decode cX8_lose 1 = .ok (.invokestatic 151, 3) := by decide +kernel
theorem dX8_lose_4 : decode cX8_lose 4 = .ok (.ifCond .ne 6, 3) := by decide +kernel
theorem dX8_lose_7 : decode cX8_lose 7 = .ok (.bipush (-2), 2) := by decide +kernel
theorem dX8_lose_9 : decode cX8_lose 9 = .ok (.ireturn, 1) := by decide +kernel
theorem dX8_lose_10 : decode cX8_lose 10 = .ok (.aload_n 0, 1) := by decide +kernel
theorem dX8_lose_11 : decode cX8_lose 11 = .ok (.getfield 59, 3) := by decide +kernel
theorem dX8_lose_14 : decode cX8_lose 14 = .ok (.iload_n 1, 1) := by decide +kernel
theorem dX8_lose_15 : decode cX8_lose 15 = .ok (.invokevirtual 154, 3) := by decide +kernel
theorem dX8_lose_18 : decode cX8_lose 18 = .ok (.ifCond .eq 14, 3) := by decide +kernel
theorem dX8_lose_21 : decode cX8_lose 21 = .ok (.aload_n 0, 1) := by decide +kernel
theorem dX8_lose_22 : decode cX8_lose 22 = .ok (.getfield 59, 3) := by decide +kernel
theorem dX8_lose_25 : decode cX8_lose 25 = .ok (.iconst 1, 1) := by decide +kernel
theorem dX8_lose_26 : decode cX8_lose 26 = .ok (.invokevirtual 157, 3) := by decide +kernel
theorem dX8_lose_29 : decode cX8_lose 29 = .ok (.goto 11, 3) := by decide +kernel
theorem dX8_lose_32 : decode cX8_lose 32 = .ok (.aload_n 0, 1) := by decide +kernel
theorem dX8_lose_33 : decode cX8_lose 33 = .ok (.getfield 59, 3) := by decide +kernel
theorem dX8_lose_36 : decode cX8_lose 36 = .ok (.iload_n 1, 1) := by decide +kernel
theorem dX8_lose_37 : decode cX8_lose 37 = .ok (.invokevirtual 279, 3) := by decide +kernel
theorem dX8_lose_40 : decode cX8_lose 40 = .ok (.ireturn, 1) := by decide +kernel
theorem dX8_put_0 : decode cX8_put 0 = .ok (.iload_n 1, 1) := by decide +kernel
theorem dX8_put_1 : decode cX8_put 1 = .ok (.invokestatic 151, 3) := by decide +kernel
theorem dX8_put_4 : decode cX8_put 4 = .ok (.ifCond .eq 10, 3) := by decide +kernel
theorem dX8_put_7 : decode cX8_put 7 = .ok (.iload_n 2, 1) := by decide +kernel
theorem dX8_put_8 : decode cX8_put 8 = .ok (.invokestatic 273, 3) := by decide +kernel
theorem dX8_put_11 : decode cX8_put 11 = .ok (.ifCond .ne 6, 3) := by decide +kernel
theorem dX8_put_14 : decode cX8_put 14 = .ok (.bipush (-2), 2) := by decide +kernel
theorem dX8_put_16 : decode cX8_put 16 = .ok (.ireturn, 1) := by decide +kernel
theorem dX8_put_17 : decode cX8_put 17 = .ok (.aload_n 0, 1) := by decide +kernel
theorem dX8_put_18 : decode cX8_put 18 = .ok (.getfield 59, 3) := by decide +kernel
theorem dX8_put_21 : decode cX8_put 21 = .ok (.iload_n 1, 1) := by decide +kernel
theorem dX8_put_22 : decode cX8_put 22 = .ok (.iload_n 2, 1) := by decide +kernel
theorem dX8_put_23 : decode cX8_put 23 = .ok (.iload_n 3, 1) := by decide +kernel
theorem dX8_put_24 : decode cX8_put 24 = .ok (.invokevirtual 282, 3) := by decide +kernel
theorem dX8_put_27 : decode cX8_put 27 = .ok (.istore 5, 2) := by decide +kernel
theorem dX8_put_29 : decode cX8_put 29 = .ok (.iload 5, 2) := by decide +kernel
theorem dX8_put_31 : decode cX8_put 31 = .ok (.ifCond .eq 13, 3) := by decide +kernel
theorem dX8_put_34 : decode cX8_put 34 = .ok (.aload_n 0, 1) := by decide +kernel
theorem dX8_put_35 : decode cX8_put 35 = .ok (.getfield 59, 3) := by decide +kernel
theorem dX8_put_38 : decode cX8_put 38 = .ok (.iload 5, 2) := by decide +kernel
theorem dX8_put_40 : decode cX8_put 40 = .ok (.invokevirtual 157, 3) := by decide +kernel
theorem dX8_put_43 : decode cX8_put 43 = .ok (.ireturn, 1) := by decide +kernel
theorem dX8_put_44 : decode cX8_put 44 = .ok (.aload_n 0, 1) := by decide +kernel
theorem dX8_put_45 : decode cX8_put 45 = .ok (.getfield 59, 3) := by decide +kernel
theorem dX8_put_48 : decode cX8_put 48 = .ok (.iload_n 1, 1) := by decide +kernel
theorem dX8_put_49 : decode cX8_put 49 = .ok (.iload_n 3, 1) := by decide +kernel
theorem dX8_put_50 : decode cX8_put 50 = .ok (.iload 4, 2) := by decide +kernel
theorem dX8_put_52 : decode cX8_put 52 = .ok (.invokevirtual 285, 3) := by decide +kernel
theorem dX8_put_55 : decode cX8_put 55 = .ok (.iconst 1, 1) := by decide +kernel
theorem dX8_put_56 : decode cX8_put 56 = .ok (.ireturn, 1) := by decide +kernel
theorem dX8_get_0 : decode cX8_get 0 = .ok (.iload_n 1, 1) := by decide +kernel
theorem dX8_get_1 : decode cX8_get 1 = .ok (.invokestatic 151, 3) := by decide +kernel
theorem dX8_get_4 : decode cX8_get 4 = .ok (.ifCond .eq 10, 3) := by decide +kernel
theorem dX8_get_7 : decode cX8_get 7 = .ok (.iload_n 2, 1) := by decide +kernel
theorem dX8_get_8 : decode cX8_get 8 = .ok (.invokestatic 273, 3) := by decide +kernel
theorem dX8_get_11 : decode cX8_get 11 = .ok (.ifCond .ne 7, 3) := by decide +kernel
theorem dX8_get_14 : decode cX8_get 14 = .ok (.ldc_w 289, 3) := by decide +kernel
theorem dX8_get_17 : decode cX8_get 17 = .ok (.ireturn, 1) := by decide +kernel
theorem dX8_get_18 : decode cX8_get 18 = .ok (.aload_n 0, 1) := by decide +kernel
theorem dX8_get_19 : decode cX8_get 19 = .ok (.getfield 59, 3) := by decide +kernel
theorem dX8_get_22 : decode cX8_get 22 = .ok (.iload_n 1, 1) := by decide +kernel
theorem dX8_get_23 : decode cX8_get 23 = .ok (.iload_n 2, 1) := by decide +kernel
theorem dX8_get_24 : decode cX8_get 24 = .ok (.iload_n 3, 1) := by decide +kernel
theorem dX8_get_25 : decode cX8_get 25 = .ok (.invokevirtual 282, 3) := by decide +kernel
theorem dX8_get_28 : decode cX8_get 28 = .ok (.istore 4, 2) := by decide +kernel
theorem dX8_get_30 : decode cX8_get 30 = .ok (.iload 4, 2) := by decide +kernel
theorem dX8_get_32 : decode cX8_get 32 = .ok (.ifCond .eq 17, 3) := by decide +kernel
theorem dX8_get_35 : decode cX8_get 35 = .ok (.aload_n 0, 1) := by decide +kernel
theorem dX8_get_36 : decode cX8_get 36 = .ok (.getfield 59, 3) := by decide +kernel
theorem dX8_get_39 : decode cX8_get 39 = .ok (.iload 4, 2) := by decide +kernel
theorem dX8_get_41 : decode cX8_get 41 = .ok (.invokevirtual 157, 3) := by decide +kernel
theorem dX8_get_44 : decode cX8_get 44 = .ok (.pop, 1) := by decide +kernel
theorem dX8_get_45 : decode cX8_get 45 = .ok (.ldc_w 289, 3) := by decide +kernel
theorem dX8_get_48 : decode cX8_get 48 = .ok (.ireturn, 1) := by decide +kernel
theorem dX8_get_49 : decode cX8_get 49 = .ok (.aload_n 0, 1) := by decide +kernel
theorem dX8_get_50 : decode cX8_get 50 = .ok (.getfield 59, 3) := by decide +kernel
theorem dX8_get_53 : decode cX8_get 53 = .ok (.getfield 168, 3) := by decide +kernel
theorem dX8_get_56 : decode cX8_get 56 = .ok (.iload_n 1, 1) := by decide +kernel
theorem dX8_get_57 : decode cX8_get 57 = .ok (.aaload, 1) := by decide +kernel
theorem dX8_get_58 : decode cX8_get 58 = .ok (.iload_n 3, 1) := by decide +kernel
theorem dX8_get_59 : decode cX8_get 59 = .ok (.iaload, 1) := by decide +kernel
theorem dX8_get_60 : decode cX8_get 60 = .ok (.ireturn, 1) := by decide +kernel
theorem dX8_copy_0 : decode cX8_copy 0 = .ok (.iload_n 1, 1) := by decide +kernel
theorem dX8_copy_1 : decode cX8_copy 1 = .ok (.invokestatic 151, 3) := by decide +kernel
theorem dX8_copy_4 : decode cX8_copy 4 = .ok (.ifCond .eq 10, 3) := by decide +kernel
theorem dX8_copy_7 : decode cX8_copy 7 = .ok (.iload_n 3, 1) := by decide +kernel
theorem dX8_copy_8 : decode cX8_copy 8 = .ok (.invokestatic 151, 3) := by decide +kernel
theorem dX8_copy_11 : decode cX8_copy 11 = .ok (.ifCond .ne 6, 3) := by decide +kernel
theorem dX8_copy_14 : decode cX8_copy 14 = .ok (.bipush (-2), 2) := by decide +kernel
theorem dX8_copy_16 : decode cX8_copy 16 = .ok (.ireturn, 1) := by decide +kernel
theorem dX8_copy_17 : decode cX8_copy 17 = .ok (.aload_n 0, 1) := by decide +kernel
theorem dX8_copy_18 : decode cX8_copy 18 = .ok (.getfield 59, 3) := by decide +kernel
theorem dX8_copy_21 : decode cX8_copy 21 = .ok (.iload_n 1, 1) := by decide +kernel
theorem dX8_copy_22 : decode cX8_copy 22 = .ok (.invokevirtual 154, 3) := by decide +kernel
theorem dX8_copy_25 : decode cX8_copy 25 = .ok (.ifCond .ne 14, 3) := by decide +kernel
theorem dX8_copy_28 : decode cX8_copy 28 = .ok (.aload_n 0, 1) := by decide +kernel
theorem dX8_copy_29 : decode cX8_copy 29 = .ok (.getfield 59, 3) := by decide +kernel
theorem dX8_copy_32 : decode cX8_copy 32 = .ok (.iload_n 3, 1) := by decide +kernel
theorem dX8_copy_33 : decode cX8_copy 33 = .ok (.invokevirtual 154, 3) := by decide +kernel
theorem dX8_copy_36 : decode cX8_copy 36 = .ok (.ifCond .eq 12, 3) := by decide +kernel
theorem dX8_copy_39 : decode cX8_copy 39 = .ok (.aload_n 0, 1) := by decide +kernel
theorem dX8_copy_40 : decode cX8_copy 40 = .ok (.getfield 59, 3) := by decide +kernel
theorem dX8_copy_43 : decode cX8_copy 43 = .ok (.iconst 1, 1) := by decide +kernel
theorem dX8_copy_44 : decode cX8_copy 44 = .ok (.invokevirtual 157, 3) := by decide +kernel
theorem dX8_copy_47 : decode cX8_copy 47 = .ok (.ireturn, 1) := by decide +kernel
theorem dX8_copy_48 : decode cX8_copy 48 = .ok (.aload_n 0, 1) := by decide +kernel
theorem dX8_copy_49 : decode cX8_copy 49 = .ok (.getfield 59, 3) := by decide +kernel
theorem dX8_copy_52 : decode cX8_copy 52 = .ok (.getfield 290, 3) := by decide +kernel
theorem dX8_copy_55 : decode cX8_copy 55 = .ok (.iload_n 1, 1) := by decide +kernel
theorem dX8_copy_56 : decode cX8_copy 56 = .ok (.iaload, 1) := by decide +kernel
theorem dX8_copy_57 : decode cX8_copy 57 = .ok (.aload_n 0, 1) := by decide +kernel
theorem dX8_copy_58 : decode cX8_copy 58 = .ok (.getfield 59, 3) := by decide +kernel
theorem dX8_copy_61 : decode cX8_copy 61 = .ok (.getfield 290, 3) := by decide +kernel
theorem dX8_copy_64 : decode cX8_copy 64 = .ok (.iload_n 3, 1) := by decide +kernel
theorem dX8_copy_65 : decode cX8_copy 65 = .ok (.iaload, 1) := by decide +kernel
theorem dX8_copy_66 : decode cX8_copy 66 = .ok (.if_icmp .eq 12, 3) := by decide +kernel
theorem dX8_copy_69 : decode cX8_copy 69 = .ok (.aload_n 0, 1) := by decide +kernel
theorem dX8_copy_70 : decode cX8_copy 70 = .ok (.getfield 59, 3) := by decide +kernel
theorem dX8_copy_73 : decode cX8_copy 73 = .ok (.iconst 4, 1) := by decide +kernel
theorem dX8_copy_74 : decode cX8_copy 74 = .ok (.invokevirtual 157, 3) := by decide +kernel
theorem dX8_copy_77 : decode cX8_copy 77 = .ok (.ireturn, 1) := by decide +kernel
theorem dX8_copy_78 : decode cX8_copy 78 = .ok (.aload_n 0, 1) := by decide +kernel
theorem dX8_copy_79 : decode cX8_copy 79 = .ok (.getfield 59, 3) := by decide +kernel
theorem dX8_copy_82 : decode cX8_copy 82 = .ok (.iload_n 1, 1) := by decide +kernel
theorem dX8_copy_83 : decode cX8_copy 83 = .ok (.iload_n 2, 1) := by decide +kernel
theorem dX8_copy_84 : decode cX8_copy 84 = .ok (.iload 5, 2) := by decide +kernel
theorem dX8_copy_86 : decode cX8_copy 86 = .ok (.invokevirtual 293, 3) := by decide +kernel
theorem dX8_copy_89 : decode cX8_copy 89 = .ok (.ifCond .eq 18, 3) := by decide +kernel
theorem dX8_copy_92 : decode cX8_copy 92 = .ok (.aload_n 0, 1) := by decide +kernel
theorem dX8_copy_93 : decode cX8_copy 93 = .ok (.getfield 59, 3) := by decide +kernel
theorem dX8_copy_96 : decode cX8_copy 96 = .ok (.iload_n 3, 1) := by decide +kernel
theorem dX8_copy_97 : decode cX8_copy 97 = .ok (.iload 4, 2) := by decide +kernel
theorem dX8_copy_99 : decode cX8_copy 99 = .ok (.iload 5, 2) := by decide +kernel
theorem dX8_copy_101 : decode cX8_copy 101 = .ok (.invokevirtual 293, 3) := by decide +kernel
theorem dX8_copy_104 : decode cX8_copy 104 = .ok (.ifCond .ne 12, 3) := by decide +kernel
theorem dX8_copy_107 : decode cX8_copy 107 = .ok (.aload_n 0, 1) := by decide +kernel
theorem dX8_copy_108 : decode cX8_copy 108 = .ok (.getfield 59, 3) := by decide +kernel
theorem dX8_copy_111 : decode cX8_copy 111 = .ok (.iconst 2, 1) := by decide +kernel
theorem dX8_copy_112 : decode cX8_copy 112 = .ok (.invokevirtual 157, 3) := by decide +kernel
theorem dX8_copy_115 : decode cX8_copy 115 = .ok (.ireturn, 1) := by decide +kernel
theorem dX8_copy_116 : decode cX8_copy 116 = .ok (.aload_n 0, 1) := by decide +kernel
theorem dX8_copy_117 : decode cX8_copy 117 = .ok (.getfield 59, 3) := by decide +kernel
theorem dX8_copy_120 : decode cX8_copy 120 = .ok (.getfield 168, 3) := by decide +kernel
theorem dX8_copy_123 : decode cX8_copy 123 = .ok (.iload_n 1, 1) := by decide +kernel
theorem dX8_copy_124 : decode cX8_copy 124 = .ok (.aaload, 1) := by decide +kernel
theorem dX8_copy_125 : decode cX8_copy 125 = .ok (.iload_n 2, 1) := by decide +kernel
theorem dX8_copy_126 : decode cX8_copy 126 = .ok (.aload_n 0, 1) := by decide +kernel
theorem dX8_copy_127 : decode cX8_copy 127 = .ok (.getfield 59, 3) := by decide +kernel
theorem dX8_copy_130 : decode cX8_copy 130 = .ok (.getfield 168, 3) := by decide +kernel
theorem dX8_copy_133 : decode cX8_copy 133 = .ok (.iload_n 3, 1) := by decide +kernel
theorem dX8_copy_134 : decode cX8_copy 134 = .ok (.aaload, 1) := by decide +kernel
theorem dX8_copy_135 : decode cX8_copy 135 = .ok (.iload 4, 2) := by decide +kernel
theorem dX8_copy_137 : decode cX8_copy 137 = .ok (.iload 5, 2) := by decide +kernel
theorem dX8_copy_139 : decode cX8_copy 139 = .ok (.invokestatic 297, 3) := by decide +kernel
theorem dX8_copy_142 : decode cX8_copy 142 = .ok (.iconst 1, 1) := by decide +kernel
theorem dX8_copy_143 : decode cX8_copy 143 = .ok (.ireturn, 1) := by decide +kernel
theorem dX8_write_0 : decode cX8_write 0 = .ok (.iload_n 1, 1) := by decide +kernel
theorem dX8_write_1 : decode cX8_write 1 = .ok (.invokestatic 151, 3) := by decide +kernel
theorem dX8_write_4 : decode cX8_write 4 = .ok (.ifCond .ne 6, 3) := by decide +kernel
theorem dX8_write_7 : decode cX8_write 7 = .ok (.bipush (-2), 2) := by decide +kernel
theorem dX8_write_9 : decode cX8_write 9 = .ok (.ireturn, 1) := by decide +kernel
theorem dX8_write_10 : decode cX8_write 10 = .ok (.aload_n 0, 1) := by decide +kernel
theorem dX8_write_11 : decode cX8_write 11 = .ok (.getfield 59, 3) := by decide +kernel
theorem dX8_write_14 : decode cX8_write 14 = .ok (.iload_n 1, 1) := by decide +kernel
theorem dX8_write_15 : decode cX8_write 15 = .ok (.invokevirtual 154, 3) := by decide +kernel
theorem dX8_write_18 : decode cX8_write 18 = .ok (.ifCond .eq 12, 3) := by decide +kernel
theorem dX8_write_21 : decode cX8_write 21 = .ok (.aload_n 0, 1) := by decide +kernel
theorem dX8_write_22 : decode cX8_write 22 = .ok (.getfield 59, 3) := by decide +kernel
theorem dX8_write_25 : decode cX8_write 25 = .ok (.iconst 1, 1) := by decide +kernel
theorem dX8_write_26 : decode cX8_write 26 = .ok (.invokevirtual 157, 3) := by decide +kernel
theorem dX8_write_29 : decode cX8_write 29 = .ok (.ireturn, 1) := by decide +kernel
theorem dX8_write_30 : decode cX8_write 30 = .ok (.aload_n 0, 1) := by decide +kernel
theorem dX8_write_31 : decode cX8_write 31 = .ok (.invokevirtual 190, 3) := by decide +kernel
theorem dX8_write_34 : decode cX8_write 34 = .ok (.aload_n 0, 1) := by decide +kernel
theorem dX8_write_35 : decode cX8_write 35 = .ok (.getfield 59, 3) := by decide +kernel
theorem dX8_write_38 : decode cX8_write 38 = .ok (.getfield 160, 3) := by decide +kernel
theorem dX8_write_41 : decode cX8_write 41 = .ok (.iload_n 1, 1) := by decide +kernel
theorem dX8_write_42 : decode cX8_write 42 = .ok (.iaload, 1) := by decide +kernel
theorem dX8_write_43 : decode cX8_write 43 = .ok (.aload_n 0, 1) := by decide +kernel
theorem dX8_write_44 : decode cX8_write 44 = .ok (.getfield 27, 3) := by decide +kernel
theorem dX8_write_47 : decode cX8_write 47 = .ok (.getfield 201, 3) := by decide +kernel
theorem dX8_write_50 : decode cX8_write 50 = .ok (.invokestatic 163, 3) := by decide +kernel
theorem dX8_write_53 : decode cX8_write 53 = .ok (.istore_n 2, 1) := by decide +kernel
theorem dX8_write_54 : decode cX8_write 54 = .ok (.iconst 0, 1) := by decide +kernel
theorem dX8_write_55 : decode cX8_write 55 = .ok (.istore_n 3, 1) := by decide +kernel
theorem dX8_write_56 : decode cX8_write 56 = .ok (.iload_n 3, 1) := by decide +kernel
theorem dX8_write_57 : decode cX8_write 57 = .ok (.iload_n 2, 1) := by decide +kernel
theorem dX8_write_58 : decode cX8_write 58 = .ok (.if_icmp .ge 27, 3) := by decide +kernel
theorem dX8_write_61 : decode cX8_write 61 = .ok (.aload_n 0, 1) := by decide +kernel
theorem dX8_write_62 : decode cX8_write 62 = .ok (.getfield 59, 3) := by decide +kernel
theorem dX8_write_65 : decode cX8_write 65 = .ok (.iload_n 1, 1) := by decide +kernel
theorem dX8_write_66 : decode cX8_write 66 = .ok (.iload_n 3, 1) := by decide +kernel
theorem dX8_write_67 : decode cX8_write 67 = .ok (.aload_n 0, 1) := by decide +kernel
theorem dX8_write_68 : decode cX8_write 68 = .ok (.getfield 10, 3) := by decide +kernel
theorem dX8_write_71 : decode cX8_write 71 = .ok (.getfield 198, 3) := by decide +kernel
theorem dX8_write_74 : decode cX8_write 74 = .ok (.iload_n 3, 1) := by decide +kernel
theorem dX8_write_75 : decode cX8_write 75 = .ok (.iaload, 1) := by decide +kernel
theorem dX8_write_76 : decode cX8_write 76 = .ok (.invokevirtual 285, 3) := by decide +kernel
theorem dX8_write_79 : decode cX8_write 79 = .ok (.iinc 3 1, 3) := by decide +kernel
theorem dX8_write_82 : decode cX8_write 82 = .ok (.goto (-26), 3) := by decide +kernel
theorem dX8_write_85 : decode cX8_write 85 = .ok (.iload_n 2, 1) := by decide +kernel
theorem dX8_write_86 : decode cX8_write 86 = .ok (.ireturn, 1) := by decide +kernel
theorem dX8_count_0 : decode cX8_count 0 = .ok (.iload_n 1, 1) := by decide +kernel
theorem dX8_count_1 : decode cX8_count 1 = .ok (.tableswitch 130 0 8 #[51, 59, 67, 75, 83, 91, 99, 114, 122], 51) := by decide +kernel
theorem dX8_count_52 : decode cX8_count 52 = .ok (.aload_n 0, 1) := by decide +kernel
theorem dX8_count_53 : decode cX8_count 53 = .ok (.getfield 27, 3) := by decide +kernel
theorem dX8_count_56 : decode cX8_count 56 = .ok (.getfield 201, 3) := by decide +kernel
theorem dX8_count_59 : decode cX8_count 59 = .ok (.ireturn, 1) := by decide +kernel
theorem dX8_count_60 : decode cX8_count 60 = .ok (.aload_n 0, 1) := by decide +kernel
theorem dX8_count_61 : decode cX8_count 61 = .ok (.getfield 27, 3) := by decide +kernel
theorem dX8_count_64 : decode cX8_count 64 = .ok (.getfield 78, 3) := by decide +kernel
theorem dX8_count_67 : decode cX8_count 67 = .ok (.ireturn, 1) := by decide +kernel
theorem dX8_count_68 : decode cX8_count 68 = .ok (.aload_n 0, 1) := by decide +kernel
theorem dX8_count_69 : decode cX8_count 69 = .ok (.getfield 34, 3) := by decide +kernel
theorem dX8_count_72 : decode cX8_count 72 = .ok (.getfield 84, 3) := by decide +kernel
theorem dX8_count_75 : decode cX8_count 75 = .ok (.ireturn, 1) := by decide +kernel
theorem dX8_count_76 : decode cX8_count 76 = .ok (.aload_n 0, 1) := by decide +kernel
theorem dX8_count_77 : decode cX8_count 77 = .ok (.getfield 34, 3) := by decide +kernel
theorem dX8_count_80 : decode cX8_count 80 = .ok (.getfield 303, 3) := by decide +kernel
theorem dX8_count_83 : decode cX8_count 83 = .ok (.ireturn, 1) := by decide +kernel
theorem dX8_count_84 : decode cX8_count 84 = .ok (.aload_n 0, 1) := by decide +kernel
theorem dX8_count_85 : decode cX8_count 85 = .ok (.getfield 45, 3) := by decide +kernel
theorem dX8_count_88 : decode cX8_count 88 = .ok (.getfield 244, 3) := by decide +kernel
theorem dX8_count_91 : decode cX8_count 91 = .ok (.ireturn, 1) := by decide +kernel
theorem dX8_count_92 : decode cX8_count 92 = .ok (.aload_n 0, 1) := by decide +kernel
theorem dX8_count_93 : decode cX8_count 93 = .ok (.getfield 52, 3) := by decide +kernel
theorem dX8_count_96 : decode cX8_count 96 = .ok (.getfield 306, 3) := by decide +kernel
theorem dX8_count_99 : decode cX8_count 99 = .ok (.ireturn, 1) := by decide +kernel
theorem dX8_count_100 : decode cX8_count 100 = .ok (.aload_n 0, 1) := by decide +kernel
theorem dX8_count_101 : decode cX8_count 101 = .ok (.getfield 27, 3) := by decide +kernel
theorem dX8_count_104 : decode cX8_count 104 = .ok (.aload_n 0, 1) := by decide +kernel
theorem dX8_count_105 : decode cX8_count 105 = .ok (.getfield 27, 3) := by decide +kernel
theorem dX8_count_108 : decode cX8_count 108 = .ok (.invokevirtual 261, 3) := by decide +kernel
theorem dX8_count_111 : decode cX8_count 111 = .ok (.invokevirtual 307, 3) := by decide +kernel
theorem dX8_count_114 : decode cX8_count 114 = .ok (.ireturn, 1) := by decide +kernel
theorem dX8_count_115 : decode cX8_count 115 = .ok (.aload_n 0, 1) := by decide +kernel
theorem dX8_count_116 : decode cX8_count 116 = .ok (.getfield 41, 3) := by decide +kernel
theorem dX8_count_119 : decode cX8_count 119 = .ok (.invokevirtual 310, 3) := by decide +kernel
theorem dX8_count_122 : decode cX8_count 122 = .ok (.ireturn, 1) := by decide +kernel
theorem dX8_count_123 : decode cX8_count 123 = .ok (.aload_n 0, 1) := by decide +kernel
theorem dX8_count_124 : decode cX8_count 124 = .ok (.getfield 59, 3) := by decide +kernel
theorem dX8_count_127 : decode cX8_count 127 = .ok (.getfield 313, 3) := by decide +kernel
theorem dX8_count_130 : decode cX8_count 130 = .ok (.ireturn, 1) := by decide +kernel
theorem dX8_count_131 : decode cX8_count 131 = .ok (.bipush (-2), 2) := by decide +kernel
theorem dX8_count_133 : decode cX8_count 133 = .ok (.ireturn, 1) := by decide +kernel
theorem dX8_digest_0 : decode cX8_digest 0 = .ok (.ldc2_w 316, 3) := by decide +kernel
theorem dX8_digest_3 : decode cX8_digest 3 = .ok (.lstore_n 1, 1) := by decide +kernel
theorem dX8_digest_4 : decode cX8_digest 4 = .ok (.iconst 0, 1) := by decide +kernel
theorem dX8_digest_5 : decode cX8_digest 5 = .ok (.istore_n 3, 1) := by decide +kernel
theorem dX8_digest_6 : decode cX8_digest 6 = .ok (.iload_n 3, 1) := by decide +kernel
theorem dX8_digest_7 : decode cX8_digest 7 = .ok (.bipush 7, 2) := by decide +kernel
theorem dX8_digest_9 : decode cX8_digest 9 = .ok (.if_icmp .gt 20, 3) := by decide +kernel
theorem dX8_digest_12 : decode cX8_digest 12 = .ok (.lload_n 1, 1) := by decide +kernel
theorem dX8_digest_13 : decode cX8_digest 13 = .ok (.aload_n 0, 1) := by decide +kernel
theorem dX8_digest_14 : decode cX8_digest 14 = .ok (.iload_n 3, 1) := by decide +kernel
theorem dX8_digest_15 : decode cX8_digest 15 = .ok (.invokevirtual 318, 3) := by decide +kernel
theorem dX8_digest_18 : decode cX8_digest 18 = .ok (.i2l, 1) := by decide +kernel
theorem dX8_digest_19 : decode cX8_digest 19 = .ok (.invokestatic 321, 3) := by decide +kernel
theorem dX8_digest_22 : decode cX8_digest 22 = .ok (.lstore_n 1, 1) := by decide +kernel
theorem dX8_digest_23 : decode cX8_digest 23 = .ok (.iinc 3 1, 3) := by decide +kernel
theorem dX8_digest_26 : decode cX8_digest 26 = .ok (.goto (-20), 3) := by decide +kernel
theorem dX8_digest_29 : decode cX8_digest 29 = .ok (.lload_n 1, 1) := by decide +kernel
theorem dX8_digest_30 : decode cX8_digest 30 = .ok (.aload_n 0, 1) := by decide +kernel
theorem dX8_digest_31 : decode cX8_digest 31 = .ok (.iconst 0, 1) := by decide +kernel
theorem dX8_digest_32 : decode cX8_digest 32 = .ok (.invokevirtual 325, 3) := by decide +kernel
theorem dX8_digest_35 : decode cX8_digest 35 = .ok (.i2l, 1) := by decide +kernel
theorem dX8_digest_36 : decode cX8_digest 36 = .ok (.invokestatic 321, 3) := by decide +kernel
theorem dX8_digest_39 : decode cX8_digest 39 = .ok (.aload_n 0, 1) := by decide +kernel
theorem dX8_digest_40 : decode cX8_digest 40 = .ok (.iconst 1, 1) := by decide +kernel
theorem dX8_digest_41 : decode cX8_digest 41 = .ok (.invokevirtual 325, 3) := by decide +kernel
theorem dX8_digest_44 : decode cX8_digest 44 = .ok (.i2l, 1) := by decide +kernel
theorem dX8_digest_45 : decode cX8_digest 45 = .ok (.invokestatic 321, 3) := by decide +kernel
theorem dX8_digest_48 : decode cX8_digest 48 = .ok (.lstore_n 1, 1) := by decide +kernel
theorem dX8_digest_49 : decode cX8_digest 49 = .ok (.iconst 0, 1) := by decide +kernel
theorem dX8_digest_50 : decode cX8_digest 50 = .ok (.istore_n 3, 1) := by decide +kernel
theorem dX8_digest_51 : decode cX8_digest 51 = .ok (.iload_n 3, 1) := by decide +kernel
theorem dX8_digest_52 : decode cX8_digest 52 = .ok (.aload_n 0, 1) := by decide +kernel
theorem dX8_digest_53 : decode cX8_digest 53 = .ok (.getfield 27, 3) := by decide +kernel
theorem dX8_digest_56 : decode cX8_digest 56 = .ok (.getfield 201, 3) := by decide +kernel
theorem dX8_digest_59 : decode cX8_digest 59 = .ok (.if_icmp .ge 40, 3) := by decide +kernel
theorem dX8_digest_62 : decode cX8_digest 62 = .ok (.aload_n 0, 1) := by decide +kernel
theorem dX8_digest_63 : decode cX8_digest 63 = .ok (.lload_n 1, 1) := by decide +kernel
theorem dX8_digest_64 : decode cX8_digest 64 = .ok (.iload_n 3, 1) := by decide +kernel
theorem dX8_digest_65 : decode cX8_digest 65 = .ok (.invokevirtual 328, 3) := by decide +kernel
theorem dX8_digest_68 : decode cX8_digest 68 = .ok (.lstore_n 1, 1) := by decide +kernel
theorem dX8_digest_69 : decode cX8_digest 69 = .ok (.lload_n 1, 1) := by decide +kernel
theorem dX8_digest_70 : decode cX8_digest 70 = .ok (.aload_n 0, 1) := by decide +kernel
theorem dX8_digest_71 : decode cX8_digest 71 = .ok (.iload_n 3, 1) := by decide +kernel
theorem dX8_digest_72 : decode cX8_digest 72 = .ok (.invokevirtual 332, 3) := by decide +kernel
theorem dX8_digest_75 : decode cX8_digest 75 = .ok (.i2l, 1) := by decide +kernel
theorem dX8_digest_76 : decode cX8_digest 76 = .ok (.invokestatic 321, 3) := by decide +kernel
theorem dX8_digest_79 : decode cX8_digest 79 = .ok (.lstore_n 1, 1) := by decide +kernel
theorem dX8_digest_80 : decode cX8_digest 80 = .ok (.lload_n 1, 1) := by decide +kernel
theorem dX8_digest_81 : decode cX8_digest 81 = .ok (.aload_n 0, 1) := by decide +kernel
theorem dX8_digest_82 : decode cX8_digest 82 = .ok (.iconst 1, 1) := by decide +kernel
theorem dX8_digest_83 : decode cX8_digest 83 = .ok (.iload_n 3, 1) := by decide +kernel
theorem dX8_digest_84 : decode cX8_digest 84 = .ok (.ishl, 1) := by decide +kernel
theorem dX8_digest_85 : decode cX8_digest 85 = .ok (.invokevirtual 335, 3) := by decide +kernel
theorem dX8_digest_88 : decode cX8_digest 88 = .ok (.i2l, 1) := by decide +kernel
theorem dX8_digest_89 : decode cX8_digest 89 = .ok (.invokestatic 321, 3) := by decide +kernel
theorem dX8_digest_92 : decode cX8_digest 92 = .ok (.lstore_n 1, 1) := by decide +kernel
theorem dX8_digest_93 : decode cX8_digest 93 = .ok (.iinc 3 1, 3) := by decide +kernel
theorem dX8_digest_96 : decode cX8_digest 96 = .ok (.goto (-45), 3) := by decide +kernel
theorem dX8_digest_99 : decode cX8_digest 99 = .ok (.iconst 0, 1) := by decide +kernel
theorem dX8_digest_100 : decode cX8_digest 100 = .ok (.istore_n 3, 1) := by decide +kernel
theorem dX8_digest_101 : decode cX8_digest 101 = .ok (.iload_n 3, 1) := by decide +kernel
theorem dX8_digest_102 : decode cX8_digest 102 = .ok (.iconst 4, 1) := by decide +kernel
theorem dX8_digest_103 : decode cX8_digest 103 = .ok (.if_icmp .ge 37, 3) := by decide +kernel
theorem dX8_digest_106 : decode cX8_digest 106 = .ok (.iconst 0, 1) := by decide +kernel
theorem dX8_digest_107 : decode cX8_digest 107 = .ok (.istore 4, 2) := by decide +kernel
theorem dX8_digest_109 : decode cX8_digest 109 = .ok (.iload 4, 2) := by decide +kernel
theorem dX8_digest_111 : decode cX8_digest 111 = .ok (.iconst 2, 1) := by decide +kernel
theorem dX8_digest_112 : decode cX8_digest 112 = .ok (.if_icmp .gt 22, 3) := by decide +kernel
theorem dX8_digest_115 : decode cX8_digest 115 = .ok (.lload_n 1, 1) := by decide +kernel
theorem dX8_digest_116 : decode cX8_digest 116 = .ok (.aload_n 0, 1) := by decide +kernel
theorem dX8_digest_117 : decode cX8_digest 117 = .ok (.iload_n 3, 1) := by decide +kernel
theorem dX8_digest_118 : decode cX8_digest 118 = .ok (.iload 4, 2) := by decide +kernel
theorem dX8_digest_120 : decode cX8_digest 120 = .ok (.invokevirtual 338, 3) := by decide +kernel
theorem dX8_digest_123 : decode cX8_digest 123 = .ok (.i2l, 1) := by decide +kernel
theorem dX8_digest_124 : decode cX8_digest 124 = .ok (.invokestatic 321, 3) := by decide +kernel
theorem dX8_digest_127 : decode cX8_digest 127 = .ok (.lstore_n 1, 1) := by decide +kernel
theorem dX8_digest_128 : decode cX8_digest 128 = .ok (.iinc 4 1, 3) := by decide +kernel
theorem dX8_digest_131 : decode cX8_digest 131 = .ok (.goto (-22), 3) := by decide +kernel
theorem dX8_digest_134 : decode cX8_digest 134 = .ok (.iinc 3 1, 3) := by decide +kernel
theorem dX8_digest_137 : decode cX8_digest 137 = .ok (.goto (-36), 3) := by decide +kernel
theorem dX8_digest_140 : decode cX8_digest 140 = .ok (.lload_n 1, 1) := by decide +kernel
theorem dX8_digest_141 : decode cX8_digest 141 = .ok (.aload_n 0, 1) := by decide +kernel
theorem dX8_digest_142 : decode cX8_digest 142 = .ok (.iconst 0, 1) := by decide +kernel
theorem dX8_digest_143 : decode cX8_digest 143 = .ok (.invokevirtual 341, 3) := by decide +kernel
theorem dX8_digest_146 : decode cX8_digest 146 = .ok (.i2l, 1) := by decide +kernel
theorem dX8_digest_147 : decode cX8_digest 147 = .ok (.invokestatic 321, 3) := by decide +kernel
theorem dX8_digest_150 : decode cX8_digest 150 = .ok (.aload_n 0, 1) := by decide +kernel
theorem dX8_digest_151 : decode cX8_digest 151 = .ok (.iconst 1, 1) := by decide +kernel
theorem dX8_digest_152 : decode cX8_digest 152 = .ok (.invokevirtual 341, 3) := by decide +kernel
theorem dX8_digest_155 : decode cX8_digest 155 = .ok (.i2l, 1) := by decide +kernel
theorem dX8_digest_156 : decode cX8_digest 156 = .ok (.invokestatic 321, 3) := by decide +kernel
theorem dX8_digest_159 : decode cX8_digest 159 = .ok (.lstore_n 1, 1) := by decide +kernel
theorem dX8_digest_160 : decode cX8_digest 160 = .ok (.lload_n 1, 1) := by decide +kernel
theorem dX8_digest_161 : decode cX8_digest 161 = .ok (.aload_n 0, 1) := by decide +kernel
theorem dX8_digest_162 : decode cX8_digest 162 = .ok (.iconst 0, 1) := by decide +kernel
theorem dX8_digest_163 : decode cX8_digest 163 = .ok (.invokevirtual 344, 3) := by decide +kernel
theorem dX8_digest_166 : decode cX8_digest 166 = .ok (.i2l, 1) := by decide +kernel
theorem dX8_digest_167 : decode cX8_digest 167 = .ok (.invokestatic 321, 3) := by decide +kernel
theorem dX8_digest_170 : decode cX8_digest 170 = .ok (.aload_n 0, 1) := by decide +kernel
theorem dX8_digest_171 : decode cX8_digest 171 = .ok (.iconst 1, 1) := by decide +kernel
theorem dX8_digest_172 : decode cX8_digest 172 = .ok (.invokevirtual 344, 3) := by decide +kernel
theorem dX8_digest_175 : decode cX8_digest 175 = .ok (.i2l, 1) := by decide +kernel
theorem dX8_digest_176 : decode cX8_digest 176 = .ok (.invokestatic 321, 3) := by decide +kernel
theorem dX8_digest_179 : decode cX8_digest 179 = .ok (.aload_n 0, 1) := by decide +kernel
theorem dX8_digest_180 : decode cX8_digest 180 = .ok (.iconst 2, 1) := by decide +kernel
theorem dX8_digest_181 : decode cX8_digest 181 = .ok (.invokevirtual 344, 3) := by decide +kernel
theorem dX8_digest_184 : decode cX8_digest 184 = .ok (.i2l, 1) := by decide +kernel
theorem dX8_digest_185 : decode cX8_digest 185 = .ok (.invokestatic 321, 3) := by decide +kernel
theorem dX8_digest_188 : decode cX8_digest 188 = .ok (.lstore_n 1, 1) := by decide +kernel
theorem dX8_digest_189 : decode cX8_digest 189 = .ok (.lload_n 1, 1) := by decide +kernel
theorem dX8_digest_190 : decode cX8_digest 190 = .ok (.aload_n 0, 1) := by decide +kernel
theorem dX8_digest_191 : decode cX8_digest 191 = .ok (.iconst 0, 1) := by decide +kernel
theorem dX8_digest_192 : decode cX8_digest 192 = .ok (.invokevirtual 347, 3) := by decide +kernel
theorem dX8_digest_195 : decode cX8_digest 195 = .ok (.i2l, 1) := by decide +kernel
theorem dX8_digest_196 : decode cX8_digest 196 = .ok (.invokestatic 321, 3) := by decide +kernel
theorem dX8_digest_199 : decode cX8_digest 199 = .ok (.aload_n 0, 1) := by decide +kernel
theorem dX8_digest_200 : decode cX8_digest 200 = .ok (.iconst 1, 1) := by decide +kernel
theorem dX8_digest_201 : decode cX8_digest 201 = .ok (.invokevirtual 347, 3) := by decide +kernel
theorem dX8_digest_204 : decode cX8_digest 204 = .ok (.i2l, 1) := by decide +kernel
theorem dX8_digest_205 : decode cX8_digest 205 = .ok (.invokestatic 321, 3) := by decide +kernel
theorem dX8_digest_208 : decode cX8_digest 208 = .ok (.lstore_n 1, 1) := by decide +kernel
theorem dX8_digest_209 : decode cX8_digest 209 = .ok (.lload_n 1, 1) := by decide +kernel
theorem dX8_digest_210 : decode cX8_digest 210 = .ok (.aload_n 0, 1) := by decide +kernel
theorem dX8_digest_211 : decode cX8_digest 211 = .ok (.invokevirtual 350, 3) := by decide +kernel
theorem dX8_digest_214 : decode cX8_digest 214 = .ok (.i2l, 1) := by decide +kernel
theorem dX8_digest_215 : decode cX8_digest 215 = .ok (.invokestatic 321, 3) := by decide +kernel
theorem dX8_digest_218 : decode cX8_digest 218 = .ok (.lstore_n 1, 1) := by decide +kernel
theorem dX8_digest_219 : decode cX8_digest 219 = .ok (.lload_n 1, 1) := by decide +kernel
theorem dX8_digest_220 : decode cX8_digest 220 = .ok (.aload_n 0, 1) := by decide +kernel
theorem dX8_digest_221 : decode cX8_digest 221 = .ok (.iconst 2, 1) := by decide +kernel
theorem dX8_digest_222 : decode cX8_digest 222 = .ok (.iconst 0, 1) := by decide +kernel
theorem dX8_digest_223 : decode cX8_digest 223 = .ok (.invokevirtual 353, 3) := by decide +kernel
theorem dX8_digest_226 : decode cX8_digest 226 = .ok (.invokestatic 321, 3) := by decide +kernel
theorem dX8_digest_229 : decode cX8_digest 229 = .ok (.aload_n 0, 1) := by decide +kernel
theorem dX8_digest_230 : decode cX8_digest 230 = .ok (.iconst 2, 1) := by decide +kernel
theorem dX8_digest_231 : decode cX8_digest 231 = .ok (.iconst 1, 1) := by decide +kernel
theorem dX8_digest_232 : decode cX8_digest 232 = .ok (.invokevirtual 353, 3) := by decide +kernel
theorem dX8_digest_235 : decode cX8_digest 235 = .ok (.invokestatic 321, 3) := by decide +kernel
theorem dX8_digest_238 : decode cX8_digest 238 = .ok (.lreturn, 1) := by decide +kernel
theorem dX8_mixDeed_0 : decode cX8_mixDeed 0 = .ok (.lload_n 1, 1) := by decide +kernel
theorem dX8_mixDeed_1 : decode cX8_mixDeed 1 = .ok (.lstore 4, 2) := by decide +kernel
theorem dX8_mixDeed_3 : decode cX8_mixDeed 3 = .ok (.iconst 0, 1) := by decide +kernel
theorem dX8_mixDeed_4 : decode cX8_mixDeed 4 = .ok (.istore 6, 2) := by decide +kernel
theorem dX8_mixDeed_6 : decode cX8_mixDeed 6 = .ok (.iload 6, 2) := by decide +kernel
theorem dX8_mixDeed_8 : decode cX8_mixDeed 8 = .ok (.iconst 4, 1) := by decide +kernel
theorem dX8_mixDeed_9 : decode cX8_mixDeed 9 = .ok (.if_icmp .gt 24, 3) := by decide +kernel
theorem dX8_mixDeed_12 : decode cX8_mixDeed 12 = .ok (.lload 4, 2) := by decide +kernel
theorem dX8_mixDeed_14 : decode cX8_mixDeed 14 = .ok (.aload_n 0, 1) := by decide +kernel
theorem dX8_mixDeed_15 : decode cX8_mixDeed 15 = .ok (.iload_n 3, 1) := by decide +kernel
theorem dX8_mixDeed_16 : decode cX8_mixDeed 16 = .ok (.iload 6, 2) := by decide +kernel
theorem dX8_mixDeed_18 : decode cX8_mixDeed 18 = .ok (.invokevirtual 357, 3) := by decide +kernel
theorem dX8_mixDeed_21 : decode cX8_mixDeed 21 = .ok (.i2l, 1) := by decide +kernel
theorem dX8_mixDeed_22 : decode cX8_mixDeed 22 = .ok (.invokestatic 321, 3) := by decide +kernel
theorem dX8_mixDeed_25 : decode cX8_mixDeed 25 = .ok (.lstore 4, 2) := by decide +kernel
theorem dX8_mixDeed_27 : decode cX8_mixDeed 27 = .ok (.iinc 6 1, 3) := by decide +kernel
theorem dX8_mixDeed_30 : decode cX8_mixDeed 30 = .ok (.goto (-24), 3) := by decide +kernel
theorem dX8_mixDeed_33 : decode cX8_mixDeed 33 = .ok (.lload 4, 2) := by decide +kernel
theorem dX8_mixDeed_35 : decode cX8_mixDeed 35 = .ok (.aload_n 0, 1) := by decide +kernel
theorem dX8_mixDeed_36 : decode cX8_mixDeed 36 = .ok (.iload_n 3, 1) := by decide +kernel
theorem dX8_mixDeed_37 : decode cX8_mixDeed 37 = .ok (.invokevirtual 360, 3) := by decide +kernel
theorem dX8_mixDeed_40 : decode cX8_mixDeed 40 = .ok (.i2l, 1) := by decide +kernel
theorem dX8_mixDeed_41 : decode cX8_mixDeed 41 = .ok (.invokestatic 321, 3) := by decide +kernel
theorem dX8_mixDeed_44 : decode cX8_mixDeed 44 = .ok (.lstore 4, 2) := by decide +kernel
theorem dX8_mixDeed_46 : decode cX8_mixDeed 46 = .ok (.lload 4, 2) := by decide +kernel
theorem dX8_mixDeed_48 : decode cX8_mixDeed 48 = .ok (.aload_n 0, 1) := by decide +kernel
theorem dX8_mixDeed_49 : decode cX8_mixDeed 49 = .ok (.iload_n 3, 1) := by decide +kernel
theorem dX8_mixDeed_50 : decode cX8_mixDeed 50 = .ok (.iconst 2, 1) := by decide +kernel
theorem dX8_mixDeed_51 : decode cX8_mixDeed 51 = .ok (.invokevirtual 363, 3) := by decide +kernel
theorem dX8_mixDeed_54 : decode cX8_mixDeed 54 = .ok (.i2l, 1) := by decide +kernel
theorem dX8_mixDeed_55 : decode cX8_mixDeed 55 = .ok (.invokestatic 321, 3) := by decide +kernel
theorem dX8_mixDeed_58 : decode cX8_mixDeed 58 = .ok (.lstore 4, 2) := by decide +kernel
theorem dX8_mixDeed_60 : decode cX8_mixDeed 60 = .ok (.lload 4, 2) := by decide +kernel
theorem dX8_mixDeed_62 : decode cX8_mixDeed 62 = .ok (.aload_n 0, 1) := by decide +kernel
theorem dX8_mixDeed_63 : decode cX8_mixDeed 63 = .ok (.iload_n 3, 1) := by decide +kernel
theorem dX8_mixDeed_64 : decode cX8_mixDeed 64 = .ok (.iconst 2, 1) := by decide +kernel
theorem dX8_mixDeed_65 : decode cX8_mixDeed 65 = .ok (.invokevirtual 366, 3) := by decide +kernel
theorem dX8_mixDeed_68 : decode cX8_mixDeed 68 = .ok (.i2l, 1) := by decide +kernel
theorem dX8_mixDeed_69 : decode cX8_mixDeed 69 = .ok (.invokestatic 321, 3) := by decide +kernel
theorem dX8_mixDeed_72 : decode cX8_mixDeed 72 = .ok (.lstore 4, 2) := by decide +kernel
theorem dX8_mixDeed_74 : decode cX8_mixDeed 74 = .ok (.lload 4, 2) := by decide +kernel
theorem dX8_mixDeed_76 : decode cX8_mixDeed 76 = .ok (.aload_n 0, 1) := by decide +kernel
theorem dX8_mixDeed_77 : decode cX8_mixDeed 77 = .ok (.iload_n 3, 1) := by decide +kernel
theorem dX8_mixDeed_78 : decode cX8_mixDeed 78 = .ok (.iconst 2, 1) := by decide +kernel
theorem dX8_mixDeed_79 : decode cX8_mixDeed 79 = .ok (.iconst 0, 1) := by decide +kernel
theorem dX8_mixDeed_80 : decode cX8_mixDeed 80 = .ok (.invokevirtual 369, 3) := by decide +kernel
theorem dX8_mixDeed_83 : decode cX8_mixDeed 83 = .ok (.invokestatic 321, 3) := by decide +kernel
theorem dX8_mixDeed_86 : decode cX8_mixDeed 86 = .ok (.aload_n 0, 1) := by decide +kernel
theorem dX8_mixDeed_87 : decode cX8_mixDeed 87 = .ok (.iload_n 3, 1) := by decide +kernel
theorem dX8_mixDeed_88 : decode cX8_mixDeed 88 = .ok (.iconst 2, 1) := by decide +kernel
theorem dX8_mixDeed_89 : decode cX8_mixDeed 89 = .ok (.iconst 1, 1) := by decide +kernel
theorem dX8_mixDeed_90 : decode cX8_mixDeed 90 = .ok (.invokevirtual 369, 3) := by decide +kernel
theorem dX8_mixDeed_93 : decode cX8_mixDeed 93 = .ok (.invokestatic 321, 3) := by decide +kernel
theorem dX8_mixDeed_96 : decode cX8_mixDeed 96 = .ok (.lreturn, 1) := by decide +kernel
theorem dX8_mix_0 : decode cX8_mix 0 = .ok (.ldc2_w 372, 3) := by decide +kernel
theorem dX8_mix_3 : decode cX8_mix 3 = .ok (.lload_n 0, 1) := by decide +kernel
theorem dX8_mix_4 : decode cX8_mix 4 = .ok (.lmul, 1) := by decide +kernel
theorem dX8_mix_5 : decode cX8_mix 5 = .ok (.lload_n 2, 1) := by decide +kernel
theorem dX8_mix_6 : decode cX8_mix 6 = .ok (.ladd, 1) := by decide +kernel
theorem dX8_mix_7 : decode cX8_mix 7 = .ok (.lreturn, 1) := by decide +kernel
theorem dX8_within_0 : decode cX8_within 0 = .ok (.iload_n 0, 1) := by decide +kernel
theorem dX8_within_1 : decode cX8_within 1 = .ok (.ifCond .lt 12, 3) := by decide +kernel
theorem dX8_within_4 : decode cX8_within 4 = .ok (.iload_n 0, 1) := by decide +kernel
theorem dX8_within_5 : decode cX8_within 5 = .ok (.iload_n 1, 1) := by decide +kernel
theorem dX8_within_6 : decode cX8_within 6 = .ok (.if_icmp .gt 7, 3) := by decide +kernel
theorem dX8_within_9 : decode cX8_within 9 = .ok (.iconst 1, 1) := by decide +kernel
theorem dX8_within_10 : decode cX8_within 10 = .ok (.goto 4, 3) := by decide +kernel
theorem dX8_within_13 : decode cX8_within 13 = .ok (.iconst 0, 1) := by decide +kernel
theorem dX8_within_14 : decode cX8_within 14 = .ok (.ireturn, 1) := by decide +kernel
theorem dX8_hasBit_0 : decode cX8_hasBit 0 = .ok (.iload_n 0, 1) := by decide +kernel
theorem dX8_hasBit_1 : decode cX8_hasBit 1 = .ok (.iload_n 1, 1) := by decide +kernel
theorem dX8_hasBit_2 : decode cX8_hasBit 2 = .ok (.ishr, 1) := by decide +kernel
theorem dX8_hasBit_3 : decode cX8_hasBit 3 = .ok (.iconst 1, 1) := by decide +kernel
theorem dX8_hasBit_4 : decode cX8_hasBit 4 = .ok (.iand, 1) := by decide +kernel
theorem dX8_hasBit_5 : decode cX8_hasBit 5 = .ok (.ifCond .eq 7, 3) := by decide +kernel
theorem dX8_hasBit_8 : decode cX8_hasBit 8 = .ok (.iconst 1, 1) := by decide +kernel
theorem dX8_hasBit_9 : decode cX8_hasBit 9 = .ok (.goto 4, 3) := by decide +kernel
theorem dX8_hasBit_12 : decode cX8_hasBit 12 = .ok (.iconst 0, 1) := by decide +kernel
theorem dX8_hasBit_13 : decode cX8_hasBit 13 = .ok (.ireturn, 1) := by decide +kernel
theorem dX8_kindOf_0 : decode cX8_kindOf 0 = .ok (.iload_n 0, 1) := by decide +kernel
theorem dX8_kindOf_1 : decode cX8_kindOf 1 = .ok (.tableswitch 43 112 116 #[35, 43, 37, 41, 39], 35) := by decide +kernel
theorem dX8_kindOf_36 : decode cX8_kindOf 36 = .ok (.iconst 0, 1) := by decide +kernel
theorem dX8_kindOf_37 : decode cX8_kindOf 37 = .ok (.ireturn, 1) := by decide +kernel
theorem dX8_kindOf_38 : decode cX8_kindOf 38 = .ok (.iconst 1, 1) := by decide +kernel
theorem dX8_kindOf_39 : decode cX8_kindOf 39 = .ok (.ireturn, 1) := by decide +kernel
theorem dX8_kindOf_40 : decode cX8_kindOf 40 = .ok (.iconst 2, 1) := by decide +kernel
theorem dX8_kindOf_41 : decode cX8_kindOf 41 = .ok (.ireturn, 1) := by decide +kernel
theorem dX8_kindOf_42 : decode cX8_kindOf 42 = .ok (.iconst 3, 1) := by decide +kernel
theorem dX8_kindOf_43 : decode cX8_kindOf 43 = .ok (.ireturn, 1) := by decide +kernel
theorem dX8_kindOf_44 : decode cX8_kindOf 44 = .ok (.iconst (-1), 1) := by decide +kernel
theorem dX8_kindOf_45 : decode cX8_kindOf 45 = .ok (.ireturn, 1) := by decide +kernel
theorem dX8_figureOf_0 : decode cX8_figureOf 0 = .ok (.iload_n 0, 1) := by decide +kernel
theorem dX8_figureOf_1 : decode cX8_figureOf 1 = .ok (.bipush 48, 2) := by decide +kernel
theorem dX8_figureOf_3 : decode cX8_figureOf 3 = .ok (.isub, 1) := by decide +kernel
theorem dX8_figureOf_4 : decode cX8_figureOf 4 = .ok (.istore_n 3, 1) := by decide +kernel
theorem dX8_figureOf_5 : decode cX8_figureOf 5 = .ok (.iload_n 3, 1) := by decide +kernel
theorem dX8_figureOf_6 : decode cX8_figureOf 6 = .ok (.iload_n 1, 1) := by decide +kernel
theorem dX8_figureOf_7 : decode cX8_figureOf 7 = .ok (.if_icmp .lt 12, 3) := by decide +kernel
theorem dX8_figureOf_10 : decode cX8_figureOf 10 = .ok (.iload_n 3, 1) := by decide +kernel
theorem dX8_figureOf_11 : decode cX8_figureOf 11 = .ok (.iload_n 2, 1) := by decide +kernel
theorem dX8_figureOf_12 : decode cX8_figureOf 12 = .ok (.if_icmp .gt 7, 3) := by decide +kernel
theorem dX8_figureOf_15 : decode cX8_figureOf 15 = .ok (.iload_n 3, 1) := by decide +kernel
theorem dX8_figureOf_16 : decode cX8_figureOf 16 = .ok (.goto 4, 3) := by decide +kernel
theorem dX8_figureOf_19 : decode cX8_figureOf 19 = .ok (.iconst (-1), 1) := by decide +kernel
theorem dX8_figureOf_20 : decode cX8_figureOf 20 = .ok (.ireturn, 1) := by decide +kernel
theorem dX8_refusal_0 : decode cX8_refusal 0 = .ok (.ldc2_w 374, 3) := by decide +kernel
theorem dX8_refusal_3 : decode cX8_refusal 3 = .ok (.iload_n 0, 1) := by decide +kernel
theorem dX8_refusal_4 : decode cX8_refusal 4 = .ok (.i2l, 1) := by decide +kernel
theorem dX8_refusal_5 : decode cX8_refusal 5 = .ok (.lsub, 1) := by decide +kernel
theorem dX8_refusal_6 : decode cX8_refusal 6 = .ok (.lreturn, 1) := by decide +kernel
theorem dX8_lowestTerm_0 : decode cX8_lowestTerm 0 = .ok (.iload_n 1, 1) := by decide +kernel
theorem dX8_lowestTerm_1 : decode cX8_lowestTerm 1 = .ok (.istore_n 3, 1) := by decide +kernel
theorem dX8_lowestTerm_2 : decode cX8_lowestTerm 2 = .ok (.iload_n 0, 1) := by decide +kernel
theorem dX8_lowestTerm_3 : decode cX8_lowestTerm 3 = .ok (.istore 4, 2) := by decide +kernel
theorem dX8_lowestTerm_5 : decode cX8_lowestTerm 5 = .ok (.iconst 0, 1) := by decide +kernel
theorem dX8_lowestTerm_6 : decode cX8_lowestTerm 6 = .ok (.istore 5, 2) := by decide +kernel
theorem dX8_lowestTerm_8 : decode cX8_lowestTerm 8 = .ok (.iload 5, 2) := by decide +kernel
theorem dX8_lowestTerm_10 : decode cX8_lowestTerm 10 = .ok (.bipush 64, 2) := by decide +kernel
theorem dX8_lowestTerm_12 : decode cX8_lowestTerm 12 = .ok (.if_icmp .ge 27, 3) := by decide +kernel
theorem dX8_lowestTerm_15 : decode cX8_lowestTerm 15 = .ok (.iload 4, 2) := by decide +kernel
theorem dX8_lowestTerm_17 : decode cX8_lowestTerm 17 = .ok (.ifCond .eq 22, 3) := by decide +kernel
theorem dX8_lowestTerm_20 : decode cX8_lowestTerm 20 = .ok (.iload_n 3, 1) := by decide +kernel
theorem dX8_lowestTerm_21 : decode cX8_lowestTerm 21 = .ok (.iload 4, 2) := by decide +kernel
theorem dX8_lowestTerm_23 : decode cX8_lowestTerm 23 = .ok (.irem, 1) := by decide +kernel
theorem dX8_lowestTerm_24 : decode cX8_lowestTerm 24 = .ok (.istore 6, 2) := by decide +kernel
theorem dX8_lowestTerm_26 : decode cX8_lowestTerm 26 = .ok (.iload 4, 2) := by decide +kernel
theorem dX8_lowestTerm_28 : decode cX8_lowestTerm 28 = .ok (.istore_n 3, 1) := by decide +kernel
theorem dX8_lowestTerm_29 : decode cX8_lowestTerm 29 = .ok (.iload 6, 2) := by decide +kernel
theorem dX8_lowestTerm_31 : decode cX8_lowestTerm 31 = .ok (.istore 4, 2) := by decide +kernel
theorem dX8_lowestTerm_33 : decode cX8_lowestTerm 33 = .ok (.iinc 5 1, 3) := by decide +kernel
theorem dX8_lowestTerm_36 : decode cX8_lowestTerm 36 = .ok (.goto (-28), 3) := by decide +kernel
theorem dX8_lowestTerm_39 : decode cX8_lowestTerm 39 = .ok (.iload_n 3, 1) := by decide +kernel
theorem dX8_lowestTerm_40 : decode cX8_lowestTerm 40 = .ok (.ifCond .ne 15, 3) := by decide +kernel
theorem dX8_lowestTerm_43 : decode cX8_lowestTerm 43 = .ok (.iload_n 2, 1) := by decide +kernel
theorem dX8_lowestTerm_44 : decode cX8_lowestTerm 44 = .ok (.ifCond .ne 8, 3) := by decide +kernel
theorem dX8_lowestTerm_47 : decode cX8_lowestTerm 47 = .ok (.iload_n 0, 1) := by decide +kernel
theorem dX8_lowestTerm_48 : decode cX8_lowestTerm 48 = .ok (.i2l, 1) := by decide +kernel
theorem dX8_lowestTerm_49 : decode cX8_lowestTerm 49 = .ok (.goto 5, 3) := by decide +kernel
theorem dX8_lowestTerm_52 : decode cX8_lowestTerm 52 = .ok (.iload_n 1, 1) := by decide +kernel
theorem dX8_lowestTerm_53 : decode cX8_lowestTerm 53 = .ok (.i2l, 1) := by decide +kernel
theorem dX8_lowestTerm_54 : decode cX8_lowestTerm 54 = .ok (.lreturn, 1) := by decide +kernel
theorem dX8_lowestTerm_55 : decode cX8_lowestTerm 55 = .ok (.iload_n 2, 1) := by decide +kernel
theorem dX8_lowestTerm_56 : decode cX8_lowestTerm 56 = .ok (.ifCond .ne 10, 3) := by decide +kernel
theorem dX8_lowestTerm_59 : decode cX8_lowestTerm 59 = .ok (.iload_n 0, 1) := by decide +kernel
theorem dX8_lowestTerm_60 : decode cX8_lowestTerm 60 = .ok (.iload_n 3, 1) := by decide +kernel
theorem dX8_lowestTerm_61 : decode cX8_lowestTerm 61 = .ok (.idiv, 1) := by decide +kernel
theorem dX8_lowestTerm_62 : decode cX8_lowestTerm 62 = .ok (.i2l, 1) := by decide +kernel
theorem dX8_lowestTerm_63 : decode cX8_lowestTerm 63 = .ok (.goto 7, 3) := by decide +kernel
theorem dX8_lowestTerm_66 : decode cX8_lowestTerm 66 = .ok (.iload_n 1, 1) := by decide +kernel
theorem dX8_lowestTerm_67 : decode cX8_lowestTerm 67 = .ok (.iload_n 3, 1) := by decide +kernel
theorem dX8_lowestTerm_68 : decode cX8_lowestTerm 68 = .ok (.idiv, 1) := by decide +kernel
theorem dX8_lowestTerm_69 : decode cX8_lowestTerm 69 = .ok (.i2l, 1) := by decide +kernel
theorem dX8_lowestTerm_70 : decode cX8_lowestTerm 70 = .ok (.lreturn, 1) := by decide +kernel
theorem dX8_isDeed_0 : decode cX8_isDeed 0 = .ok (.iload_n 1, 1) := by decide +kernel
theorem dX8_isDeed_1 : decode cX8_isDeed 1 = .ok (.aload_n 0, 1) := by decide +kernel
theorem dX8_isDeed_2 : decode cX8_isDeed 2 = .ok (.getfield 27, 3) := by decide +kernel
theorem dX8_isDeed_5 : decode cX8_isDeed 5 = .ok (.getfield 201, 3) := by decide +kernel
theorem dX8_isDeed_8 : decode cX8_isDeed 8 = .ok (.iconst 1, 1) := by decide +kernel
theorem dX8_isDeed_9 : decode cX8_isDeed 9 = .ok (.isub, 1) := by decide +kernel
theorem dX8_isDeed_10 : decode cX8_isDeed 10 = .ok (.invokestatic 74, 3) := by decide +kernel
theorem dX8_isDeed_13 : decode cX8_isDeed 13 = .ok (.ireturn, 1) := by decide +kernel
theorem dX8_sparedBy_0 : decode cX8_sparedBy 0 = .ok (.aload_n 0, 1) := by decide +kernel
theorem dX8_sparedBy_1 : decode cX8_sparedBy 1 = .ok (.getfield 27, 3) := by decide +kernel
theorem dX8_sparedBy_4 : decode cX8_sparedBy 4 = .ok (.aload_n 0, 1) := by decide +kernel
theorem dX8_sparedBy_5 : decode cX8_sparedBy 5 = .ok (.getfield 52, 3) := by decide +kernel
theorem dX8_sparedBy_8 : decode cX8_sparedBy 8 = .ok (.iload_n 1, 1) := by decide +kernel
theorem dX8_sparedBy_9 : decode cX8_sparedBy 9 = .ok (.aload_n 0, 1) := by decide +kernel
theorem dX8_sparedBy_10 : decode cX8_sparedBy 10 = .ok (.getfield 27, 3) := by decide +kernel
theorem dX8_sparedBy_13 : decode cX8_sparedBy 13 = .ok (.invokevirtual 261, 3) := by decide +kernel
theorem dX8_sparedBy_16 : decode cX8_sparedBy 16 = .ok (.invokevirtual 376, 3) := by decide +kernel
theorem dX8_sparedBy_19 : decode cX8_sparedBy 19 = .ok (.iload_n 1, 1) := by decide +kernel
theorem dX8_sparedBy_20 : decode cX8_sparedBy 20 = .ok (.iconst (-1), 1) := by decide +kernel
theorem dX8_sparedBy_21 : decode cX8_sparedBy 21 = .ok (.ixor, 1) := by decide +kernel
theorem dX8_sparedBy_22 : decode cX8_sparedBy 22 = .ok (.iand, 1) := by decide +kernel
theorem dX8_sparedBy_23 : decode cX8_sparedBy 23 = .ok (.invokevirtual 307, 3) := by decide +kernel
theorem dX8_sparedBy_26 : decode cX8_sparedBy 26 = .ok (.ireturn, 1) := by decide +kernel
theorem dX8_nightChanged_0 : decode cX8_nightChanged 0 = .ok (.aload_n 0, 1) := by decide +kernel
theorem dX8_nightChanged_1 : decode cX8_nightChanged 1 = .ok (.iconst 1, 1) := by decide +kernel
theorem dX8_nightChanged_2 : decode cX8_nightChanged 2 = .ok (.putfield 67, 3) := by decide +kernel
theorem dX8_nightChanged_5 : decode cX8_nightChanged 5 = .ok (.aload_n 0, 1) := by decide +kernel
theorem dX8_nightChanged_6 : decode cX8_nightChanged 6 = .ok (.iconst 1, 1) := by decide +kernel
theorem dX8_nightChanged_7 : decode cX8_nightChanged 7 = .ok (.putfield 71, 3) := by decide +kernel
theorem dX8_nightChanged_10 : decode cX8_nightChanged 10 = .ok (.return_, 1) := by decide +kernel
theorem dX8_reckonOffers_0 : decode cX8_reckonOffers 0 = .ok (.aload_n 0, 1) := by decide +kernel
theorem dX8_reckonOffers_1 : decode cX8_reckonOffers 1 = .ok (.getfield 67, 3) := by decide +kernel
theorem dX8_reckonOffers_4 : decode cX8_reckonOffers 4 = .ok (.ifCond .eq 15, 3) := by decide +kernel
theorem dX8_reckonOffers_7 : decode cX8_reckonOffers 7 = .ok (.aload_n 0, 1) := by decide +kernel
theorem dX8_reckonOffers_8 : decode cX8_reckonOffers 8 = .ok (.getfield 20, 3) := by decide +kernel
theorem dX8_reckonOffers_11 : decode cX8_reckonOffers 11 = .ok (.invokevirtual 379, 3) := by decide +kernel
theorem dX8_reckonOffers_14 : decode cX8_reckonOffers 14 = .ok (.aload_n 0, 1) := by decide +kernel
theorem dX8_reckonOffers_15 : decode cX8_reckonOffers 15 = .ok (.iconst 0, 1) := by decide +kernel
theorem dX8_reckonOffers_16 : decode cX8_reckonOffers 16 = .ok (.putfield 67, 3) := by decide +kernel
theorem dX8_reckonOffers_19 : decode cX8_reckonOffers 19 = .ok (.return_, 1) := by decide +kernel
theorem dX8_reckonPlan_0 : decode cX8_reckonPlan 0 = .ok (.aload_n 0, 1) := by decide +kernel
theorem dX8_reckonPlan_1 : decode cX8_reckonPlan 1 = .ok (.invokevirtual 175, 3) := by decide +kernel
theorem dX8_reckonPlan_4 : decode cX8_reckonPlan 4 = .ok (.aload_n 0, 1) := by decide +kernel
theorem dX8_reckonPlan_5 : decode cX8_reckonPlan 5 = .ok (.getfield 71, 3) := by decide +kernel
theorem dX8_reckonPlan_8 : decode cX8_reckonPlan 8 = .ok (.ifCond .eq 15, 3) := by decide +kernel
theorem dX8_reckonPlan_11 : decode cX8_reckonPlan 11 = .ok (.aload_n 0, 1) := by decide +kernel
theorem dX8_reckonPlan_12 : decode cX8_reckonPlan 12 = .ok (.getfield 10, 3) := by decide +kernel
theorem dX8_reckonPlan_15 : decode cX8_reckonPlan 15 = .ok (.invokevirtual 382, 3) := by decide +kernel
theorem dX8_reckonPlan_18 : decode cX8_reckonPlan 18 = .ok (.aload_n 0, 1) := by decide +kernel
theorem dX8_reckonPlan_19 : decode cX8_reckonPlan 19 = .ok (.iconst 0, 1) := by decide +kernel
theorem dX8_reckonPlan_20 : decode cX8_reckonPlan 20 = .ok (.putfield 71, 3) := by decide +kernel
theorem dX8_reckonPlan_23 : decode cX8_reckonPlan 23 = .ok (.return_, 1) := by decide +kernel
theorem dX9_init_0 : decode cX9_init 0 = .ok (.aload_n 0, 1) := by decide +kernel
theorem dX9_init_1 : decode cX9_init 1 = .ok (.invokespecial 1, 3) := by decide +kernel
theorem dX9_init_4 : decode cX9_init 4 = .ok (.aload_n 0, 1) := by decide +kernel
theorem dX9_init_5 : decode cX9_init 5 = .ok (.iconst 2, 1) := by decide +kernel
theorem dX9_init_6 : decode cX9_init 6 = .ok (.newarray .int, 2) := by decide +kernel
theorem dX9_init_8 : decode cX9_init 8 = .ok (.putfield 7, 3) := by decide +kernel
theorem dX9_init_11 : decode cX9_init 11 = .ok (.aload_n 0, 1) := by decide +kernel
theorem dX9_init_12 : decode cX9_init 12 = .ok (.sipush 160, 3) := by decide +kernel
theorem dX9_init_15 : decode cX9_init 15 = .ok (.newarray .int, 2) := by decide +kernel
theorem dX9_init_17 : decode cX9_init 17 = .ok (.putfield 13, 3) := by decide +kernel
theorem dX9_init_20 : decode cX9_init 20 = .ok (.aload_n 0, 1) := by decide +kernel
theorem dX9_init_21 : decode cX9_init 21 = .ok (.bipush 9, 2) := by decide +kernel
theorem dX9_init_23 : decode cX9_init 23 = .ok (.newarray .int, 2) := by decide +kernel
theorem dX9_init_25 : decode cX9_init 25 = .ok (.putfield 16, 3) := by decide +kernel
theorem dX9_init_28 : decode cX9_init 28 = .ok (.aload_n 0, 1) := by decide +kernel
theorem dX9_init_29 : decode cX9_init 29 = .ok (.bipush 9, 2) := by decide +kernel
theorem dX9_init_31 : decode cX9_init 31 = .ok (.newarray .int, 2) := by decide +kernel
theorem dX9_init_33 : decode cX9_init 33 = .ok (.putfield 19, 3) := by decide +kernel
theorem dX9_init_36 : decode cX9_init 36 = .ok (.aload_n 0, 1) := by decide +kernel
theorem dX9_init_37 : decode cX9_init 37 = .ok (.bipush 9, 2) := by decide +kernel
theorem dX9_init_39 : decode cX9_init 39 = .ok (.newarray .int, 2) := by decide +kernel
theorem dX9_init_41 : decode cX9_init 41 = .ok (.putfield 22, 3) := by decide +kernel
theorem dX9_init_44 : decode cX9_init 44 = .ok (.aload_n 0, 1) := by decide +kernel
theorem dX9_init_45 : decode cX9_init 45 = .ok (.bipush 9, 2) := by decide +kernel
theorem dX9_init_47 : decode cX9_init 47 = .ok (.newarray .int, 2) := by decide +kernel
theorem dX9_init_49 : decode cX9_init 49 = .ok (.putfield 25, 3) := by decide +kernel
theorem dX9_init_52 : decode cX9_init 52 = .ok (.aload_n 0, 1) := by decide +kernel
theorem dX9_init_53 : decode cX9_init 53 = .ok (.bipush 9, 2) := by decide +kernel
theorem dX9_init_55 : decode cX9_init 55 = .ok (.newarray .int, 2) := by decide +kernel
theorem dX9_init_57 : decode cX9_init 57 = .ok (.putfield 28, 3) := by decide +kernel
theorem dX9_init_60 : decode cX9_init 60 = .ok (.aload_n 0, 1) := by decide +kernel
theorem dX9_init_61 : decode cX9_init 61 = .ok (.iconst 4, 1) := by decide +kernel
theorem dX9_init_62 : decode cX9_init 62 = .ok (.newarray .int, 2) := by decide +kernel
theorem dX9_init_64 : decode cX9_init 64 = .ok (.putfield 31, 3) := by decide +kernel
theorem dX9_init_67 : decode cX9_init 67 = .ok (.aload_n 0, 1) := by decide +kernel
theorem dX9_init_68 : decode cX9_init 68 = .ok (.iconst 4, 1) := by decide +kernel
theorem dX9_init_69 : decode cX9_init 69 = .ok (.newarray .int, 2) := by decide +kernel
theorem dX9_init_71 : decode cX9_init 71 = .ok (.putfield 34, 3) := by decide +kernel
theorem dX9_init_74 : decode cX9_init 74 = .ok (.aload_n 0, 1) := by decide +kernel
theorem dX9_init_75 : decode cX9_init 75 = .ok (.iconst 4, 1) := by decide +kernel
theorem dX9_init_76 : decode cX9_init 76 = .ok (.newarray .int, 2) := by decide +kernel
theorem dX9_init_78 : decode cX9_init 78 = .ok (.putfield 37, 3) := by decide +kernel
theorem dX9_init_81 : decode cX9_init 81 = .ok (.aload_n 0, 1) := by decide +kernel
theorem dX9_init_82 : decode cX9_init 82 = .ok (.bipush 8, 2) := by decide +kernel
theorem dX9_init_84 : decode cX9_init 84 = .ok (.newarray .int, 2) := by decide +kernel
theorem dX9_init_86 : decode cX9_init 86 = .ok (.putfield 40, 3) := by decide +kernel
theorem dX9_init_89 : decode cX9_init 89 = .ok (.aload_n 0, 1) := by decide +kernel
theorem dX9_init_90 : decode cX9_init 90 = .ok (.bipush 8, 2) := by decide +kernel
theorem dX9_init_92 : decode cX9_init 92 = .ok (.newarray .int, 2) := by decide +kernel
theorem dX9_init_94 : decode cX9_init 94 = .ok (.putfield 43, 3) := by decide +kernel
theorem dX9_init_97 : decode cX9_init 97 = .ok (.aload_n 0, 1) := by decide +kernel
theorem dX9_init_98 : decode cX9_init 98 = .ok (.bipush 8, 2) := by decide +kernel
theorem dX9_init_100 : decode cX9_init 100 = .ok (.newarray .int, 2) := by decide +kernel
theorem dX9_init_102 : decode cX9_init 102 = .ok (.putfield 46, 3) := by decide +kernel
theorem dX9_init_105 : decode cX9_init 105 = .ok (.aload_n 0, 1) := by decide +kernel
theorem dX9_init_106 : decode cX9_init 106 = .ok (.bipush 8, 2) := by decide +kernel
theorem dX9_init_108 : decode cX9_init 108 = .ok (.newarray .int, 2) := by decide +kernel
theorem dX9_init_110 : decode cX9_init 110 = .ok (.putfield 49, 3) := by decide +kernel
theorem dX9_init_113 : decode cX9_init 113 = .ok (.aload_n 0, 1) := by decide +kernel
theorem dX9_init_114 : decode cX9_init 114 = .ok (.bipush 8, 2) := by decide +kernel
theorem dX9_init_116 : decode cX9_init 116 = .ok (.newarray .int, 2) := by decide +kernel
theorem dX9_init_118 : decode cX9_init 118 = .ok (.putfield 52, 3) := by decide +kernel
theorem dX9_init_121 : decode cX9_init 121 = .ok (.aload_n 0, 1) := by decide +kernel
theorem dX9_init_122 : decode cX9_init 122 = .ok (.iconst 4, 1) := by decide +kernel
theorem dX9_init_123 : decode cX9_init 123 = .ok (.newarray .int, 2) := by decide +kernel
theorem dX9_init_125 : decode cX9_init 125 = .ok (.putfield 55, 3) := by decide +kernel
theorem dX9_init_128 : decode cX9_init 128 = .ok (.aload_n 0, 1) := by decide +kernel
theorem dX9_init_129 : decode cX9_init 129 = .ok (.sipush 2048, 3) := by decide +kernel
theorem dX9_init_132 : decode cX9_init 132 = .ok (.newarray .int, 2) := by decide +kernel
theorem dX9_init_134 : decode cX9_init 134 = .ok (.putfield 58, 3) := by decide +kernel
theorem dX9_init_137 : decode cX9_init 137 = .ok (.aload_n 0, 1) := by decide +kernel
theorem dX9_init_138 : decode cX9_init 138 = .ok (.sipush 256, 3) := by decide +kernel
theorem dX9_init_141 : decode cX9_init 141 = .ok (.newarray .int, 2) := by decide +kernel
theorem dX9_init_143 : decode cX9_init 143 = .ok (.putfield 61, 3) := by decide +kernel
theorem dX9_init_146 : decode cX9_init 146 = .ok (.aload_n 0, 1) := by decide +kernel
theorem dX9_init_147 : decode cX9_init 147 = .ok (.sipush 256, 3) := by decide +kernel
theorem dX9_init_150 : decode cX9_init 150 = .ok (.newarray .int, 2) := by decide +kernel
theorem dX9_init_152 : decode cX9_init 152 = .ok (.putfield 64, 3) := by decide +kernel
theorem dX9_init_155 : decode cX9_init 155 = .ok (.aload_n 0, 1) := by decide +kernel
theorem dX9_init_156 : decode cX9_init 156 = .ok (.bipush 8, 2) := by decide +kernel
theorem dX9_init_158 : decode cX9_init 158 = .ok (.newarray .int, 2) := by decide +kernel
theorem dX9_init_160 : decode cX9_init 160 = .ok (.putfield 67, 3) := by decide +kernel
theorem dX9_init_163 : decode cX9_init 163 = .ok (.aload_n 0, 1) := by decide +kernel
theorem dX9_init_164 : decode cX9_init 164 = .ok (.bipush 10, 2) := by decide +kernel
theorem dX9_init_166 : decode cX9_init 166 = .ok (.newarray .int, 2) := by decide +kernel
theorem dX9_init_168 : decode cX9_init 168 = .ok (.putfield 70, 3) := by decide +kernel
theorem dX9_init_171 : decode cX9_init 171 = .ok (.aload_n 0, 1) := by decide +kernel
theorem dX9_init_172 : decode cX9_init 172 = .ok (.bipush 10, 2) := by decide +kernel
theorem dX9_init_174 : decode cX9_init 174 = .ok (.newarray .int, 2) := by decide +kernel
theorem dX9_init_176 : decode cX9_init 176 = .ok (.putfield 73, 3) := by decide +kernel
theorem dX9_init_179 : decode cX9_init 179 = .ok (.aload_n 0, 1) := by decide +kernel
theorem dX9_init_180 : decode cX9_init 180 = .ok (.bipush 10, 2) := by decide +kernel
theorem dX9_init_182 : decode cX9_init 182 = .ok (.newarray .int, 2) := by decide +kernel
theorem dX9_init_184 : decode cX9_init 184 = .ok (.putfield 76, 3) := by decide +kernel
theorem dX9_init_187 : decode cX9_init 187 = .ok (.aload_n 0, 1) := by decide +kernel
theorem dX9_init_188 : decode cX9_init 188 = .ok (.bipush 10, 2) := by decide +kernel
theorem dX9_init_190 : decode cX9_init 190 = .ok (.newarray .int, 2) := by decide +kernel
theorem dX9_init_192 : decode cX9_init 192 = .ok (.putfield 79, 3) := by decide +kernel
theorem dX9_init_195 : decode cX9_init 195 = .ok (.aload_n 0, 1) := by decide +kernel
theorem dX9_init_196 : decode cX9_init 196 = .ok (.bipush 10, 2) := by decide +kernel
theorem dX9_init_198 : decode cX9_init 198 = .ok (.newarray .int, 2) := by decide +kernel
theorem dX9_init_200 : decode cX9_init 200 = .ok (.putfield 82, 3) := by decide +kernel
theorem dX9_init_203 : decode cX9_init 203 = .ok (.aload_n 0, 1) := by decide +kernel
theorem dX9_init_204 : decode cX9_init 204 = .ok (.iconst 4, 1) := by decide +kernel
theorem dX9_init_205 : decode cX9_init 205 = .ok (.newarray .boolean, 2) := by decide +kernel
theorem dX9_init_207 : decode cX9_init 207 = .ok (.putfield 85, 3) := by decide +kernel
theorem dX9_init_210 : decode cX9_init 210 = .ok (.aload_n 0, 1) := by decide +kernel
theorem dX9_init_211 : decode cX9_init 211 = .ok (.iconst 4, 1) := by decide +kernel
theorem dX9_init_212 : decode cX9_init 212 = .ok (.newarray .int, 2) := by decide +kernel
theorem dX9_init_214 : decode cX9_init 214 = .ok (.putfield 89, 3) := by decide +kernel
theorem dX9_init_217 : decode cX9_init 217 = .ok (.aload_n 0, 1) := by decide +kernel
theorem dX9_init_218 : decode cX9_init 218 = .ok (.iconst 4, 1) := by decide +kernel
theorem dX9_init_219 : decode cX9_init 219 = .ok (.newarray .int, 2) := by decide +kernel
theorem dX9_init_221 : decode cX9_init 221 = .ok (.putfield 92, 3) := by decide +kernel
theorem dX9_init_224 : decode cX9_init 224 = .ok (.aload_n 0, 1) := by decide +kernel
theorem dX9_init_225 : decode cX9_init 225 = .ok (.sipush 240, 3) := by decide +kernel
theorem dX9_init_228 : decode cX9_init 228 = .ok (.newarray .int, 2) := by decide +kernel
theorem dX9_init_230 : decode cX9_init 230 = .ok (.putfield 95, 3) := by decide +kernel
theorem dX9_init_233 : decode cX9_init 233 = .ok (.aload_n 0, 1) := by decide +kernel
theorem dX9_init_234 : decode cX9_init 234 = .ok (.bipush 60, 2) := by decide +kernel
theorem dX9_init_236 : decode cX9_init 236 = .ok (.newarray .int, 2) := by decide +kernel
theorem dX9_init_238 : decode cX9_init 238 = .ok (.putfield 98, 3) := by decide +kernel
theorem dX9_init_241 : decode cX9_init 241 = .ok (.iconst 0, 1) := by decide +kernel
theorem dX9_init_242 : decode cX9_init 242 = .ok (.istore_n 1, 1) := by decide +kernel
theorem dX9_init_243 : decode cX9_init 243 = .ok (.iload_n 1, 1) := by decide +kernel
theorem dX9_init_244 : decode cX9_init 244 = .ok (.bipush 8, 2) := by decide +kernel
theorem dX9_init_246 : decode cX9_init 246 = .ok (.if_icmp .ge 32, 3) := by decide +kernel
theorem dX9_init_249 : decode cX9_init 249 = .ok (.aload_n 0, 1) := by decide +kernel
theorem dX9_init_250 : decode cX9_init 250 = .ok (.getfield 43, 3) := by decide +kernel
theorem dX9_init_253 : decode cX9_init 253 = .ok (.iload_n 1, 1) := by decide +kernel
theorem dX9_init_254 : decode cX9_init 254 = .ok (.bipush 8, 2) := by decide +kernel
theorem dX9_init_256 : decode cX9_init 256 = .ok (.iastore, 1) := by decide +kernel
theorem dX9_init_257 : decode cX9_init 257 = .ok (.aload_n 0, 1) := by decide +kernel
theorem dX9_init_258 : decode cX9_init 258 = .ok (.getfield 46, 3) := by decide +kernel
theorem dX9_init_261 : decode cX9_init 261 = .ok (.iload_n 1, 1) := by decide +kernel
theorem dX9_init_262 : decode cX9_init 262 = .ok (.iconst 1, 1) := by decide +kernel
theorem dX9_init_263 : decode cX9_init 263 = .ok (.iastore, 1) := by decide +kernel
theorem dX9_init_264 : decode cX9_init 264 = .ok (.aload_n 0, 1) := by decide +kernel
theorem dX9_init_265 : decode cX9_init 265 = .ok (.getfield 49, 3) := by decide +kernel
theorem dX9_init_268 : decode cX9_init 268 = .ok (.iload_n 1, 1) := by decide +kernel
theorem dX9_init_269 : decode cX9_init 269 = .ok (.bipush 16, 2) := by decide +kernel
theorem dX9_init_271 : decode cX9_init 271 = .ok (.iastore, 1) := by decide +kernel
theorem dX9_init_272 : decode cX9_init 272 = .ok (.iinc 1 1, 3) := by decide +kernel
theorem dX9_init_275 : decode cX9_init 275 = .ok (.goto (-32), 3) := by decide +kernel
theorem dX9_init_278 : decode cX9_init 278 = .ok (.aload_n 0, 1) := by decide +kernel
theorem dX9_init_279 : decode cX9_init 279 = .ok (.getfield 55, 3) := by decide +kernel
theorem dX9_init_282 : decode cX9_init 282 = .ok (.iconst 0, 1) := by decide +kernel
theorem dX9_init_283 : decode cX9_init 283 = .ok (.bipush 9, 2) := by decide +kernel
theorem dX9_init_285 : decode cX9_init 285 = .ok (.iastore, 1) := by decide +kernel
theorem dX9_init_286 : decode cX9_init 286 = .ok (.aload_n 0, 1) := by decide +kernel
theorem dX9_init_287 : decode cX9_init 287 = .ok (.getfield 55, 3) := by decide +kernel
theorem dX9_init_290 : decode cX9_init 290 = .ok (.iconst 2, 1) := by decide +kernel
theorem dX9_init_291 : decode cX9_init 291 = .ok (.sipush 999, 3) := by decide +kernel
theorem dX9_init_294 : decode cX9_init 294 = .ok (.iastore, 1) := by decide +kernel
theorem dX9_init_295 : decode cX9_init 295 = .ok (.aload_n 0, 1) := by decide +kernel
theorem dX9_init_296 : decode cX9_init 296 = .ok (.getfield 55, 3) := by decide +kernel
theorem dX9_init_299 : decode cX9_init 299 = .ok (.iconst 3, 1) := by decide +kernel
theorem dX9_init_300 : decode cX9_init 300 = .ok (.bipush 6, 2) := by decide +kernel
theorem dX9_init_302 : decode cX9_init 302 = .ok (.iastore, 1) := by decide +kernel
theorem dX9_init_303 : decode cX9_init 303 = .ok (.return_, 1) := by decide +kernel
theorem dX9_in_0 : decode cX9_in 0 = .ok (.iload_n 0, 1) := by decide +kernel
theorem dX9_in_1 : decode cX9_in 1 = .ok (.iload_n 1, 1) := by decide +kernel
theorem dX9_in_2 : decode cX9_in 2 = .ok (.if_icmp .lt 12, 3) := by decide +kernel
theorem dX9_in_5 : decode cX9_in 5 = .ok (.iload_n 0, 1) := by decide +kernel
theorem dX9_in_6 : decode cX9_in 6 = .ok (.iload_n 2, 1) := by decide +kernel
theorem dX9_in_7 : decode cX9_in 7 = .ok (.if_icmp .gt 7, 3) := by decide +kernel
theorem dX9_in_10 : decode cX9_in 10 = .ok (.iconst 1, 1) := by decide +kernel
theorem dX9_in_11 : decode cX9_in 11 = .ok (.goto 4, 3) := by decide +kernel
theorem dX9_in_14 : decode cX9_in 14 = .ok (.iconst 0, 1) := by decide +kernel
theorem dX9_in_15 : decode cX9_in 15 = .ok (.ireturn, 1) := by decide +kernel
theorem dX9_isIn_0 : decode cX9_isIn 0 = .ok (.iload_n 0, 1) := by decide +kernel
theorem dX9_isIn_1 : decode cX9_isIn 1 = .ok (.iload_n 1, 1) := by decide +kernel
theorem dX9_isIn_2 : decode cX9_isIn 2 = .ok (.ishr, 1) := by decide +kernel
theorem dX9_isIn_3 : decode cX9_isIn 3 = .ok (.iconst 1, 1) := by decide +kernel
theorem dX9_isIn_4 : decode cX9_isIn 4 = .ok (.iand, 1) := by decide +kernel
theorem dX9_isIn_5 : decode cX9_isIn 5 = .ok (.iconst 1, 1) := by decide +kernel
theorem dX9_isIn_6 : decode cX9_isIn 6 = .ok (.if_icmp .ne 7, 3) := by decide +kernel
theorem dX9_isIn_9 : decode cX9_isIn 9 = .ok (.iconst 1, 1) := by decide +kernel
theorem dX9_isIn_10 : decode cX9_isIn 10 = .ok (.goto 4, 3) := by decide +kernel
theorem dX9_isIn_13 : decode cX9_isIn 13 = .ok (.iconst 0, 1) := by decide +kernel
theorem dX9_isIn_14 : decode cX9_isIn 14 = .ok (.ireturn, 1) := by decide +kernel
theorem dX9_ones_0 : decode cX9_ones 0 = .ok (.iconst 0, 1) := by decide +kernel
theorem dX9_ones_1 : decode cX9_ones 1 = .ok (.istore_n 1, 1) := by decide +kernel
theorem dX9_ones_2 : decode cX9_ones 2 = .ok (.iconst 0, 1) := by decide +kernel
theorem dX9_ones_3 : decode cX9_ones 3 = .ok (.istore_n 2, 1) := by decide +kernel
theorem dX9_ones_4 : decode cX9_ones 4 = .ok (.iload_n 2, 1) := by decide +kernel
theorem dX9_ones_5 : decode cX9_ones 5 = .ok (.bipush 10, 2) := by decide +kernel
theorem dX9_ones_7 : decode cX9_ones 7 = .ok (.if_icmp .ge 17, 3) := by decide +kernel
theorem dX9_ones_10 : decode cX9_ones 10 = .ok (.iload_n 1, 1) := by decide +kernel
theorem dX9_ones_11 : decode cX9_ones 11 = .ok (.iload_n 0, 1) := by decide +kernel
theorem dX9_ones_12 : decode cX9_ones 12 = .ok (.iload_n 2, 1) := by decide +kernel
theorem dX9_ones_13 : decode cX9_ones 13 = .ok (.ishr, 1) := by decide +kernel
theorem dX9_ones_14 : decode cX9_ones 14 = .ok (.iconst 1, 1) := by decide +kernel
theorem dX9_ones_15 : decode cX9_ones 15 = .ok (.iand, 1) := by decide +kernel
theorem dX9_ones_16 : decode cX9_ones 16 = .ok (.iadd, 1) := by decide +kernel
theorem dX9_ones_17 : decode cX9_ones 17 = .ok (.istore_n 1, 1) := by decide +kernel
theorem dX9_ones_18 : decode cX9_ones 18 = .ok (.iinc 2 1, 3) := by decide +kernel
theorem dX9_ones_21 : decode cX9_ones 21 = .ok (.goto (-17), 3) := by decide +kernel
theorem dX9_ones_24 : decode cX9_ones 24 = .ok (.iload_n 1, 1) := by decide +kernel
theorem dX9_ones_25 : decode cX9_ones 25 = .ok (.ireturn, 1) := by decide +kernel
theorem dX9_no_0 : decode cX9_no 0 = .ok (.ldc2_w 101, 3) := by decide +kernel
theorem dX9_no_3 : decode cX9_no 3 = .ok (.iload_n 0, 1) := by decide +kernel
theorem dX9_no_4 : decode cX9_no 4 = .ok (.i2l, 1) := by decide +kernel
theorem dX9_no_5 : decode cX9_no 5 = .ok (.lsub, 1) := by decide +kernel
theorem dX9_no_6 : decode cX9_no 6 = .ok (.lreturn, 1) := by decide +kernel
theorem dX9_lowest_0 : decode cX9_lowest 0 = .ok (.lload_n 0, 1) := by decide +kernel
theorem dX9_lowest_1 : decode cX9_lowest 1 = .ok (.lstore 5, 2) := by decide +kernel
theorem dX9_lowest_3 : decode cX9_lowest 3 = .ok (.lload_n 2, 1) := by decide +kernel
theorem dX9_lowest_4 : decode cX9_lowest 4 = .ok (.lstore 7, 2) := by decide +kernel
theorem dX9_lowest_6 : decode cX9_lowest 6 = .ok (.lload 7, 2) := by decide +kernel
theorem dX9_lowest_8 : decode cX9_lowest 8 = .ok (.lconst 0, 1) := by decide +kernel
theorem dX9_lowest_9 : decode cX9_lowest 9 = .ok (.lcmp, 1) := by decide +kernel
theorem dX9_lowest_10 : decode cX9_lowest 10 = .ok (.ifCond .eq 21, 3) := by decide +kernel
theorem dX9_lowest_13 : decode cX9_lowest 13 = .ok (.lload 5, 2) := by decide +kernel
theorem dX9_lowest_15 : decode cX9_lowest 15 = .ok (.lload 7, 2) := by decide +kernel
theorem dX9_lowest_17 : decode cX9_lowest 17 = .ok (.lrem, 1) := by decide +kernel
theorem dX9_lowest_18 : decode cX9_lowest 18 = .ok (.lstore 9, 2) := by decide +kernel
theorem dX9_lowest_20 : decode cX9_lowest 20 = .ok (.lload 7, 2) := by decide +kernel
theorem dX9_lowest_22 : decode cX9_lowest 22 = .ok (.lstore 5, 2) := by decide +kernel
theorem dX9_lowest_24 : decode cX9_lowest 24 = .ok (.lload 9, 2) := by decide +kernel
theorem dX9_lowest_26 : decode cX9_lowest 26 = .ok (.lstore 7, 2) := by decide +kernel
theorem dX9_lowest_28 : decode cX9_lowest 28 = .ok (.goto (-22), 3) := by decide +kernel
theorem dX9_lowest_31 : decode cX9_lowest 31 = .ok (.iload 4, 2) := by decide +kernel
theorem dX9_lowest_33 : decode cX9_lowest 33 = .ok (.ifCond .ne 10, 3) := by decide +kernel
theorem dX9_lowest_36 : decode cX9_lowest 36 = .ok (.lload_n 0, 1) := by decide +kernel
theorem dX9_lowest_37 : decode cX9_lowest 37 = .ok (.lload 5, 2) := by decide +kernel
theorem dX9_lowest_39 : decode cX9_lowest 39 = .ok (.ldiv, 1) := by decide +kernel
theorem dX9_lowest_40 : decode cX9_lowest 40 = .ok (.goto 7, 3) := by decide +kernel
theorem dX9_lowest_43 : decode cX9_lowest 43 = .ok (.lload_n 2, 1) := by decide +kernel
theorem dX9_lowest_44 : decode cX9_lowest 44 = .ok (.lload 5, 2) := by decide +kernel
theorem dX9_lowest_46 : decode cX9_lowest 46 = .ok (.ldiv, 1) := by decide +kernel
theorem dX9_lowest_47 : decode cX9_lowest 47 = .ok (.lreturn, 1) := by decide +kernel
theorem dX9_choose_0 : decode cX9_choose 0 = .ok (.iload_n 1, 1) := by decide +kernel
theorem dX9_choose_1 : decode cX9_choose 1 = .ok (.ifCond .lt 8, 3) := by decide +kernel
theorem dX9_choose_4 : decode cX9_choose 4 = .ok (.iload_n 1, 1) := by decide +kernel
theorem dX9_choose_5 : decode cX9_choose 5 = .ok (.iload_n 0, 1) := by decide +kernel
theorem dX9_choose_6 : decode cX9_choose 6 = .ok (.if_icmp .le 7, 3) := by decide +kernel
theorem dX9_choose_9 : decode cX9_choose 9 = .ok (.lconst 0, 1) := by decide +kernel
theorem dX9_choose_10 : decode cX9_choose 10 = .ok (.goto 4, 3) := by decide +kernel
theorem dX9_choose_13 : decode cX9_choose 13 = .ok (.lconst 1, 1) := by decide +kernel
theorem dX9_choose_14 : decode cX9_choose 14 = .ok (.lstore_n 2, 1) := by decide +kernel
theorem dX9_choose_15 : decode cX9_choose 15 = .ok (.iconst 1, 1) := by decide +kernel
theorem dX9_choose_16 : decode cX9_choose 16 = .ok (.istore 4, 2) := by decide +kernel
theorem dX9_choose_18 : decode cX9_choose 18 = .ok (.iload 4, 2) := by decide +kernel
theorem dX9_choose_20 : decode cX9_choose 20 = .ok (.iload_n 1, 1) := by decide +kernel
theorem dX9_choose_21 : decode cX9_choose 21 = .ok (.if_icmp .gt 29, 3) := by decide +kernel
theorem dX9_choose_24 : decode cX9_choose 24 = .ok (.lload_n 2, 1) := by decide +kernel
theorem dX9_choose_25 : decode cX9_choose 25 = .ok (.lconst 0, 1) := by decide +kernel
theorem dX9_choose_26 : decode cX9_choose 26 = .ok (.lcmp, 1) := by decide +kernel
theorem dX9_choose_27 : decode cX9_choose 27 = .ok (.ifCond .le 23, 3) := by decide +kernel
theorem dX9_choose_30 : decode cX9_choose 30 = .ok (.lload_n 2, 1) := by decide +kernel
theorem dX9_choose_31 : decode cX9_choose 31 = .ok (.iload_n 0, 1) := by decide +kernel
theorem dX9_choose_32 : decode cX9_choose 32 = .ok (.iload_n 1, 1) := by decide +kernel
theorem dX9_choose_33 : decode cX9_choose 33 = .ok (.isub, 1) := by decide +kernel
theorem dX9_choose_34 : decode cX9_choose 34 = .ok (.iload 4, 2) := by decide +kernel
theorem dX9_choose_36 : decode cX9_choose 36 = .ok (.iadd, 1) := by decide +kernel
theorem dX9_choose_37 : decode cX9_choose 37 = .ok (.i2l, 1) := by decide +kernel
theorem dX9_choose_38 : decode cX9_choose 38 = .ok (.lmul, 1) := by decide +kernel
theorem dX9_choose_39 : decode cX9_choose 39 = .ok (.iload 4, 2) := by decide +kernel
theorem dX9_choose_41 : decode cX9_choose 41 = .ok (.i2l, 1) := by decide +kernel
theorem dX9_choose_42 : decode cX9_choose 42 = .ok (.ldiv, 1) := by decide +kernel
theorem dX9_choose_43 : decode cX9_choose 43 = .ok (.lstore_n 2, 1) := by decide +kernel
theorem dX9_choose_44 : decode cX9_choose 44 = .ok (.iinc 4 1, 3) := by decide +kernel
theorem dX9_choose_47 : decode cX9_choose 47 = .ok (.goto (-29), 3) := by decide +kernel
theorem dX9_choose_50 : decode cX9_choose 50 = .ok (.lload_n 2, 1) := by decide +kernel
theorem dX9_choose_51 : decode cX9_choose 51 = .ok (.lreturn, 1) := by decide +kernel
theorem dX9_type_0 : decode cX9_type 0 = .ok (.iload_n 1, 1) := by decide +kernel
theorem dX9_type_1 : decode cX9_type 1 = .ok (.iconst 0, 1) := by decide +kernel
theorem dX9_type_2 : decode cX9_type 2 = .ok (.iconst 1, 1) := by decide +kernel
theorem dX9_type_3 : decode cX9_type 3 = .ok (.invokestatic 103, 3) := by decide +kernel
theorem dX9_type_6 : decode cX9_type 6 = .ok (.ifCond .eq 14, 3) := by decide +kernel
theorem dX9_type_9 : decode cX9_type 9 = .ok (.iload_n 2, 1) := by decide +kernel
theorem dX9_type_10 : decode cX9_type 10 = .ok (.iconst 0, 1) := by decide +kernel
theorem dX9_type_11 : decode cX9_type 11 = .ok (.sipush 255, 3) := by decide +kernel
theorem dX9_type_14 : decode cX9_type 14 = .ok (.invokestatic 103, 3) := by decide +kernel
theorem dX9_type_17 : decode cX9_type 17 = .ok (.ifCond .ne 6, 3) := by decide +kernel
theorem dX9_type_20 : decode cX9_type 20 = .ok (.bipush (-2), 2) := by decide +kernel
theorem dX9_type_22 : decode cX9_type 22 = .ok (.ireturn, 1) := by decide +kernel
theorem dX9_type_23 : decode cX9_type 23 = .ok (.aload_n 0, 1) := by decide +kernel
theorem dX9_type_24 : decode cX9_type 24 = .ok (.getfield 7, 3) := by decide +kernel
theorem dX9_type_27 : decode cX9_type 27 = .ok (.iload_n 1, 1) := by decide +kernel
theorem dX9_type_28 : decode cX9_type 28 = .ok (.iaload, 1) := by decide +kernel
theorem dX9_type_29 : decode cX9_type 29 = .ok (.iload_n 1, 1) := by decide +kernel
theorem dX9_type_30 : decode cX9_type 30 = .ok (.ifCond .ne 8, 3) := by decide +kernel
theorem dX9_type_33 : decode cX9_type 33 = .ok (.bipush 80, 2) := by decide +kernel
theorem dX9_type_35 : decode cX9_type 35 = .ok (.goto 5, 3) := by decide +kernel
theorem dX9_type_38 : decode cX9_type 38 = .ok (.bipush 40, 2) := by decide +kernel
theorem dX9_type_40 : decode cX9_type 40 = .ok (.if_icmp .ne 6, 3) := by decide +kernel
theorem dX9_type_43 : decode cX9_type 43 = .ok (.bipush (-4), 2) := by decide +kernel
theorem dX9_type_45 : decode cX9_type 45 = .ok (.ireturn, 1) := by decide +kernel
theorem dX9_type_46 : decode cX9_type 46 = .ok (.aload_n 0, 1) := by decide +kernel
theorem dX9_type_47 : decode cX9_type 47 = .ok (.getfield 13, 3) := by decide +kernel
theorem dX9_type_50 : decode cX9_type 50 = .ok (.bipush 80, 2) := by decide +kernel
theorem dX9_type_52 : decode cX9_type 52 = .ok (.iload_n 1, 1) := by decide +kernel
theorem dX9_type_53 : decode cX9_type 53 = .ok (.imul, 1) := by decide +kernel
theorem dX9_type_54 : decode cX9_type 54 = .ok (.aload_n 0, 1) := by decide +kernel
theorem dX9_type_55 : decode cX9_type 55 = .ok (.getfield 7, 3) := by decide +kernel
theorem dX9_type_58 : decode cX9_type 58 = .ok (.iload_n 1, 1) := by decide +kernel
theorem dX9_type_59 : decode cX9_type 59 = .ok (.iaload, 1) := by decide +kernel
theorem dX9_type_60 : decode cX9_type 60 = .ok (.iadd, 1) := by decide +kernel
theorem dX9_type_61 : decode cX9_type 61 = .ok (.iload_n 2, 1) := by decide +kernel
theorem dX9_type_62 : decode cX9_type 62 = .ok (.iastore, 1) := by decide +kernel
theorem dX9_type_63 : decode cX9_type 63 = .ok (.aload_n 0, 1) := by decide +kernel
theorem dX9_type_64 : decode cX9_type 64 = .ok (.getfield 7, 3) := by decide +kernel
theorem dX9_type_67 : decode cX9_type 67 = .ok (.iload_n 1, 1) := by decide +kernel
theorem dX9_type_68 : decode cX9_type 68 = .ok (.dup2, 1) := by decide +kernel
theorem dX9_type_69 : decode cX9_type 69 = .ok (.iaload, 1) := by decide +kernel
theorem dX9_type_70 : decode cX9_type 70 = .ok (.iconst 1, 1) := by decide +kernel
theorem dX9_type_71 : decode cX9_type 71 = .ok (.iadd, 1) := by decide +kernel
theorem dX9_type_72 : decode cX9_type 72 = .ok (.iastore, 1) := by decide +kernel
theorem dX9_type_73 : decode cX9_type 73 = .ok (.aload_n 0, 1) := by decide +kernel
theorem dX9_type_74 : decode cX9_type 74 = .ok (.getfield 7, 3) := by decide +kernel
theorem dX9_type_77 : decode cX9_type 77 = .ok (.iload_n 1, 1) := by decide +kernel
theorem dX9_type_78 : decode cX9_type 78 = .ok (.iaload, 1) := by decide +kernel
theorem dX9_type_79 : decode cX9_type 79 = .ok (.ireturn, 1) := by decide +kernel
theorem dX9_wipe_0 : decode cX9_wipe 0 = .ok (.iload_n 1, 1) := by decide +kernel
theorem dX9_wipe_1 : decode cX9_wipe 1 = .ok (.iconst 0, 1) := by decide +kernel
theorem dX9_wipe_2 : decode cX9_wipe 2 = .ok (.iconst 1, 1) := by decide +kernel
theorem dX9_wipe_3 : decode cX9_wipe 3 = .ok (.invokestatic 103, 3) := by decide +kernel
theorem dX9_wipe_6 : decode cX9_wipe 6 = .ok (.ifCond .ne 6, 3) := by decide +kernel
theorem dX9_wipe_9 : decode cX9_wipe 9 = .ok (.bipush (-2), 2) := by decide +kernel
theorem dX9_wipe_11 : decode cX9_wipe 11 = .ok (.ireturn, 1) := by decide +kernel
theorem dX9_wipe_12 : decode cX9_wipe 12 = .ok (.aload_n 0, 1) := by decide +kernel
theorem dX9_wipe_13 : decode cX9_wipe 13 = .ok (.getfield 7, 3) := by decide +kernel
theorem dX9_wipe_16 : decode cX9_wipe 16 = .ok (.iload_n 1, 1) := by decide +kernel
theorem dX9_wipe_17 : decode cX9_wipe 17 = .ok (.iaload, 1) := by decide +kernel
theorem dX9_wipe_18 : decode cX9_wipe 18 = .ok (.istore_n 2, 1) := by decide +kernel
theorem dX9_wipe_19 : decode cX9_wipe 19 = .ok (.aload_n 0, 1) := by decide +kernel
theorem dX9_wipe_20 : decode cX9_wipe 20 = .ok (.getfield 7, 3) := by decide +kernel
theorem dX9_wipe_23 : decode cX9_wipe 23 = .ok (.iload_n 1, 1) := by decide +kernel
theorem dX9_wipe_24 : decode cX9_wipe 24 = .ok (.iconst 0, 1) := by decide +kernel
theorem dX9_wipe_25 : decode cX9_wipe 25 = .ok (.iastore, 1) := by decide +kernel
theorem dX9_wipe_26 : decode cX9_wipe 26 = .ok (.iload_n 2, 1) := by decide +kernel
theorem dX9_wipe_27 : decode cX9_wipe 27 = .ok (.ireturn, 1) := by decide +kernel
theorem dX9_byteAt_0 : decode cX9_byteAt 0 = .ok (.iload_n 2, 1) := by decide +kernel
theorem dX9_byteAt_1 : decode cX9_byteAt 1 = .ok (.aload_n 0, 1) := by decide +kernel
theorem dX9_byteAt_2 : decode cX9_byteAt 2 = .ok (.getfield 7, 3) := by decide +kernel
theorem dX9_byteAt_5 : decode cX9_byteAt 5 = .ok (.iload_n 1, 1) := by decide +kernel
theorem dX9_byteAt_6 : decode cX9_byteAt 6 = .ok (.iaload, 1) := by decide +kernel
theorem dX9_byteAt_7 : decode cX9_byteAt 7 = .ok (.if_icmp .ge 17, 3) := by decide +kernel
theorem dX9_byteAt_10 : decode cX9_byteAt 10 = .ok (.aload_n 0, 1) := by decide +kernel
theorem dX9_byteAt_11 : decode cX9_byteAt 11 = .ok (.getfield 13, 3) := by decide +kernel
theorem dX9_byteAt_14 : decode cX9_byteAt 14 = .ok (.bipush 80, 2) := by decide +kernel
theorem dX9_byteAt_16 : decode cX9_byteAt 16 = .ok (.iload_n 1, 1) := by decide +kernel
theorem dX9_byteAt_17 : decode cX9_byteAt 17 = .ok (.imul, 1) := by decide +kernel
theorem dX9_byteAt_18 : decode cX9_byteAt 18 = .ok (.iload_n 2, 1) := by decide +kernel
theorem dX9_byteAt_19 : decode cX9_byteAt 19 = .ok (.iadd, 1) := by decide +kernel
theorem dX9_byteAt_20 : decode cX9_byteAt 20 = .ok (.iaload, 1) := by decide +kernel
theorem dX9_byteAt_21 : decode cX9_byteAt 21 = .ok (.goto 4, 3) := by decide +kernel
theorem dX9_byteAt_24 : decode cX9_byteAt 24 = .ok (.iconst (-1), 1) := by decide +kernel
theorem dX9_byteAt_25 : decode cX9_byteAt 25 = .ok (.ireturn, 1) := by decide +kernel
theorem dX9_kindBy_0 : decode cX9_kindBy 0 = .ok (.iload_n 0, 1) := by decide +kernel
theorem dX9_kindBy_1 : decode cX9_kindBy 1 = .ok (.bipush 112, 2) := by decide +kernel
theorem dX9_kindBy_3 : decode cX9_kindBy 3 = .ok (.if_icmp .ne 7, 3) := by decide +kernel
theorem dX9_kindBy_6 : decode cX9_kindBy 6 = .ok (.iconst 0, 1) := by decide +kernel
theorem dX9_kindBy_7 : decode cX9_kindBy 7 = .ok (.goto 34, 3) := by decide +kernel
theorem dX9_kindBy_10 : decode cX9_kindBy 10 = .ok (.iload_n 0, 1) := by decide +kernel
theorem dX9_kindBy_11 : decode cX9_kindBy 11 = .ok (.bipush 114, 2) := by decide +kernel
theorem dX9_kindBy_13 : decode cX9_kindBy 13 = .ok (.if_icmp .ne 7, 3) := by decide +kernel
theorem dX9_kindBy_16 : decode cX9_kindBy 16 = .ok (.iconst 1, 1) := by decide +kernel
theorem dX9_kindBy_17 : decode cX9_kindBy 17 = .ok (.goto 24, 3) := by decide +kernel
theorem dX9_kindBy_20 : decode cX9_kindBy 20 = .ok (.iload_n 0, 1) := by decide +kernel
theorem dX9_kindBy_21 : decode cX9_kindBy 21 = .ok (.bipush 116, 2) := by decide +kernel
theorem dX9_kindBy_23 : decode cX9_kindBy 23 = .ok (.if_icmp .ne 7, 3) := by decide +kernel
theorem dX9_kindBy_26 : decode cX9_kindBy 26 = .ok (.iconst 2, 1) := by decide +kernel
theorem dX9_kindBy_27 : decode cX9_kindBy 27 = .ok (.goto 14, 3) := by decide +kernel
theorem dX9_kindBy_30 : decode cX9_kindBy 30 = .ok (.iload_n 0, 1) := by decide +kernel
theorem dX9_kindBy_31 : decode cX9_kindBy 31 = .ok (.bipush 115, 2) := by decide +kernel
theorem dX9_kindBy_33 : decode cX9_kindBy 33 = .ok (.if_icmp .ne 7, 3) := by decide +kernel
theorem dX9_kindBy_36 : decode cX9_kindBy 36 = .ok (.iconst 3, 1) := by decide +kernel
theorem dX9_kindBy_37 : decode cX9_kindBy 37 = .ok (.goto 4, 3) := by decide +kernel
theorem dX9_kindBy_40 : decode cX9_kindBy 40 = .ok (.iconst (-1), 1) := by decide +kernel
theorem dX9_kindBy_41 : decode cX9_kindBy 41 = .ok (.ireturn, 1) := by decide +kernel
theorem dX9_readsDeeds_0 : decode cX9_readsDeeds 0 = .ok (.aload_n 0, 1) := by decide +kernel
theorem dX9_readsDeeds_1 : decode cX9_readsDeeds 1 = .ok (.iconst 0, 1) := by decide +kernel
theorem dX9_readsDeeds_2 : decode cX9_readsDeeds 2 = .ok (.putfield 107, 3) := by decide +kernel
theorem dX9_readsDeeds_5 : decode cX9_readsDeeds 5 = .ok (.iconst 0, 1) := by decide +kernel
theorem dX9_readsDeeds_6 : decode cX9_readsDeeds 6 = .ok (.istore_n 1, 1) := by decide +kernel
theorem dX9_readsDeeds_7 : decode cX9_readsDeeds 7 = .ok (.iconst 0, 1) := by decide +kernel
theorem dX9_readsDeeds_8 : decode cX9_readsDeeds 8 = .ok (.istore_n 2, 1) := by decide +kernel
theorem dX9_readsDeeds_9 : decode cX9_readsDeeds 9 = .ok (.iload_n 2, 1) := by decide +kernel
theorem dX9_readsDeeds_10 : decode cX9_readsDeeds 10 = .ok (.aload_n 0, 1) := by decide +kernel
theorem dX9_readsDeeds_11 : decode cX9_readsDeeds 11 = .ok (.getfield 7, 3) := by decide +kernel
theorem dX9_readsDeeds_14 : decode cX9_readsDeeds 14 = .ok (.iconst 0, 1) := by decide +kernel
theorem dX9_readsDeeds_15 : decode cX9_readsDeeds 15 = .ok (.iaload, 1) := by decide +kernel
theorem dX9_readsDeeds_16 : decode cX9_readsDeeds 16 = .ok (.if_icmp .lt 7, 3) := by decide +kernel
theorem dX9_readsDeeds_19 : decode cX9_readsDeeds 19 = .ok (.iload_n 2, 1) := by decide +kernel
theorem dX9_readsDeeds_20 : decode cX9_readsDeeds 20 = .ok (.ifCond .le 281, 3) := by decide +kernel
theorem dX9_readsDeeds_23 : decode cX9_readsDeeds 23 = .ok (.iload_n 1, 1) := by decide +kernel
theorem dX9_readsDeeds_24 : decode cX9_readsDeeds 24 = .ok (.bipush 8, 2) := by decide +kernel
theorem dX9_readsDeeds_26 : decode cX9_readsDeeds 26 = .ok (.if_icmp .eq 16, 3) := by decide +kernel
theorem dX9_readsDeeds_29 : decode cX9_readsDeeds 29 = .ok (.aload_n 0, 1) := by decide +kernel
theorem dX9_readsDeeds_30 : decode cX9_readsDeeds 30 = .ok (.iconst 0, 1) := by decide +kernel
theorem dX9_readsDeeds_31 : decode cX9_readsDeeds 31 = .ok (.iload_n 2, 1) := by decide +kernel
theorem dX9_readsDeeds_32 : decode cX9_readsDeeds 32 = .ok (.invokevirtual 111, 3) := by decide +kernel
theorem dX9_readsDeeds_35 : decode cX9_readsDeeds 35 = .ok (.invokestatic 115, 3) := by decide +kernel
theorem dX9_readsDeeds_38 : decode cX9_readsDeeds 38 = .ok (.iconst (-1), 1) := by decide +kernel
theorem dX9_readsDeeds_39 : decode cX9_readsDeeds 39 = .ok (.if_icmp .ne 5, 3) := by decide +kernel
theorem dX9_readsDeeds_42 : decode cX9_readsDeeds 42 = .ok (.iload_n 2, 1) := by decide +kernel
theorem dX9_readsDeeds_43 : decode cX9_readsDeeds 43 = .ok (.ireturn, 1) := by decide +kernel
theorem dX9_readsDeeds_44 : decode cX9_readsDeeds 44 = .ok (.aload_n 0, 1) := by decide +kernel
theorem dX9_readsDeeds_45 : decode cX9_readsDeeds 45 = .ok (.iconst 0, 1) := by decide +kernel
theorem dX9_readsDeeds_46 : decode cX9_readsDeeds 46 = .ok (.iload_n 2, 1) := by decide +kernel
theorem dX9_readsDeeds_47 : decode cX9_readsDeeds 47 = .ok (.iconst 1, 1) := by decide +kernel
