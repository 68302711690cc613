theorem dX9_after_22 : decode cX9_after 22 = .ok (.if_icmp .ne 6, 3) := by decide +kernel
theorem dX9_after_25 : decode cX9_after 25 = .ok (.bipush (-2), 2) := by decide +kernel
theorem dX9_after_27 : decode cX9_after 27 = .ok (.ireturn, 1) := by decide +kernel
theorem dX9_after_28 : decode cX9_after 28 = .ok (.aload_n 0, 1) := by decide +kernel
theorem dX9_after_29 : decode cX9_after 29 = .ok (.getfield 255, 3) := by decide +kernel
theorem dX9_after_32 : decode cX9_after 32 = .ok (.bipush 10, 2) := by decide +kernel
theorem dX9_after_34 : decode cX9_after 34 = .ok (.if_icmp .ne 6, 3) := by decide +kernel
theorem dX9_after_37 : decode cX9_after 37 = .ok (.bipush (-4), 2) := by decide +kernel
theorem dX9_after_39 : decode cX9_after 39 = .ok (.ireturn, 1) := by decide +kernel
theorem dX9_after_40 : decode cX9_after 40 = .ok (.aload_n 0, 1) := by decide +kernel
theorem dX9_after_41 : decode cX9_after 41 = .ok (.getfield 79, 3) := by decide +kernel
theorem dX9_after_44 : decode cX9_after 44 = .ok (.aload_n 0, 1) := by decide +kernel
theorem dX9_after_45 : decode cX9_after 45 = .ok (.getfield 255, 3) := by decide +kernel
theorem dX9_after_48 : decode cX9_after 48 = .ok (.iload_n 1, 1) := by decide +kernel
theorem dX9_after_49 : decode cX9_after 49 = .ok (.iastore, 1) := by decide +kernel
theorem dX9_after_50 : decode cX9_after 50 = .ok (.aload_n 0, 1) := by decide +kernel
theorem dX9_after_51 : decode cX9_after 51 = .ok (.getfield 82, 3) := by decide +kernel
theorem dX9_after_54 : decode cX9_after 54 = .ok (.aload_n 0, 1) := by decide +kernel
theorem dX9_after_55 : decode cX9_after 55 = .ok (.getfield 255, 3) := by decide +kernel
theorem dX9_after_58 : decode cX9_after 58 = .ok (.iload_n 2, 1) := by decide +kernel
theorem dX9_after_59 : decode cX9_after 59 = .ok (.iastore, 1) := by decide +kernel
theorem dX9_after_60 : decode cX9_after 60 = .ok (.aload_n 0, 1) := by decide +kernel
theorem dX9_after_61 : decode cX9_after 61 = .ok (.dup, 1) := by decide +kernel
theorem dX9_after_62 : decode cX9_after 62 = .ok (.getfield 255, 3) := by decide +kernel
theorem dX9_after_65 : decode cX9_after 65 = .ok (.iconst 1, 1) := by decide +kernel
theorem dX9_after_66 : decode cX9_after 66 = .ok (.iadd, 1) := by decide +kernel
theorem dX9_after_67 : decode cX9_after 67 = .ok (.putfield 255, 3) := by decide +kernel
theorem dX9_after_70 : decode cX9_after 70 = .ok (.aload_n 0, 1) := by decide +kernel
theorem dX9_after_71 : decode cX9_after 71 = .ok (.getfield 255, 3) := by decide +kernel
theorem dX9_after_74 : decode cX9_after 74 = .ok (.ireturn, 1) := by decide +kernel
theorem dX9_forget_0 : decode cX9_forget 0 = .ok (.iload_n 1, 1) := by decide +kernel
theorem dX9_forget_1 : decode cX9_forget 1 = .ok (.iconst 0, 1) := by decide +kernel
theorem dX9_forget_2 : decode cX9_forget 2 = .ok (.iconst 1, 1) := by decide +kernel
theorem dX9_forget_3 : decode cX9_forget 3 = .ok (.invokestatic 103, 3) := by decide +kernel
theorem dX9_forget_6 : decode cX9_forget 6 = .ok (.ifCond .ne 6, 3) := by decide +kernel
theorem dX9_forget_9 : decode cX9_forget 9 = .ok (.bipush (-2), 2) := by decide +kernel
theorem dX9_forget_11 : decode cX9_forget 11 = .ok (.ireturn, 1) := by decide +kernel
theorem dX9_forget_12 : decode cX9_forget 12 = .ok (.iload_n 1, 1) := by decide +kernel
theorem dX9_forget_13 : decode cX9_forget 13 = .ok (.ifCond .ne 10, 3) := by decide +kernel
theorem dX9_forget_16 : decode cX9_forget 16 = .ok (.aload_n 0, 1) := by decide +kernel
theorem dX9_forget_17 : decode cX9_forget 17 = .ok (.getfield 243, 3) := by decide +kernel
theorem dX9_forget_20 : decode cX9_forget 20 = .ok (.goto 7, 3) := by decide +kernel
theorem dX9_forget_23 : decode cX9_forget 23 = .ok (.aload_n 0, 1) := by decide +kernel
theorem dX9_forget_24 : decode cX9_forget 24 = .ok (.getfield 255, 3) := by decide +kernel
theorem dX9_forget_27 : decode cX9_forget 27 = .ok (.istore_n 2, 1) := by decide +kernel
theorem dX9_forget_28 : decode cX9_forget 28 = .ok (.aload_n 0, 1) := by decide +kernel
theorem dX9_forget_29 : decode cX9_forget 29 = .ok (.iload_n 1, 1) := by decide +kernel
theorem dX9_forget_30 : decode cX9_forget 30 = .ok (.ifCond .ne 7, 3) := by decide +kernel
theorem dX9_forget_33 : decode cX9_forget 33 = .ok (.iconst 0, 1) := by decide +kernel
theorem dX9_forget_34 : decode cX9_forget 34 = .ok (.goto 7, 3) := by decide +kernel
theorem dX9_forget_37 : decode cX9_forget 37 = .ok (.aload_n 0, 1) := by decide +kernel
theorem dX9_forget_38 : decode cX9_forget 38 = .ok (.getfield 243, 3) := by decide +kernel
theorem dX9_forget_41 : decode cX9_forget 41 = .ok (.putfield 243, 3) := by decide +kernel
theorem dX9_forget_44 : decode cX9_forget 44 = .ok (.aload_n 0, 1) := by decide +kernel
theorem dX9_forget_45 : decode cX9_forget 45 = .ok (.iload_n 1, 1) := by decide +kernel
theorem dX9_forget_46 : decode cX9_forget 46 = .ok (.iconst 1, 1) := by decide +kernel
theorem dX9_forget_47 : decode cX9_forget 47 = .ok (.if_icmp .ne 7, 3) := by decide +kernel
theorem dX9_forget_50 : decode cX9_forget 50 = .ok (.iconst 0, 1) := by decide +kernel
theorem dX9_forget_51 : decode cX9_forget 51 = .ok (.goto 7, 3) := by decide +kernel
theorem dX9_forget_54 : decode cX9_forget 54 = .ok (.aload_n 0, 1) := by decide +kernel
theorem dX9_forget_55 : decode cX9_forget 55 = .ok (.getfield 255, 3) := by decide +kernel
theorem dX9_forget_58 : decode cX9_forget 58 = .ok (.putfield 255, 3) := by decide +kernel
theorem dX9_forget_61 : decode cX9_forget 61 = .ok (.iload_n 2, 1) := by decide +kernel
theorem dX9_forget_62 : decode cX9_forget 62 = .ok (.ireturn, 1) := by decide +kernel
theorem dX9_sparedOf_0 : decode cX9_sparedOf 0 = .ok (.iload_n 1, 1) := by decide +kernel
theorem dX9_sparedOf_1 : decode cX9_sparedOf 1 = .ok (.istore_n 2, 1) := by decide +kernel
theorem dX9_sparedOf_2 : decode cX9_sparedOf 2 = .ok (.iconst 0, 1) := by decide +kernel
theorem dX9_sparedOf_3 : decode cX9_sparedOf 3 = .ok (.istore_n 3, 1) := by decide +kernel
theorem dX9_sparedOf_4 : decode cX9_sparedOf 4 = .ok (.iload_n 3, 1) := by decide +kernel
theorem dX9_sparedOf_5 : decode cX9_sparedOf 5 = .ok (.bipush 8, 2) := by decide +kernel
theorem dX9_sparedOf_7 : decode cX9_sparedOf 7 = .ok (.if_icmp .ge 85, 3) := by decide +kernel
theorem dX9_sparedOf_10 : decode cX9_sparedOf 10 = .ok (.iconst 0, 1) := by decide +kernel
theorem dX9_sparedOf_11 : decode cX9_sparedOf 11 = .ok (.istore 4, 2) := by decide +kernel
theorem dX9_sparedOf_13 : decode cX9_sparedOf 13 = .ok (.iload 4, 2) := by decide +kernel
theorem dX9_sparedOf_15 : decode cX9_sparedOf 15 = .ok (.aload_n 0, 1) := by decide +kernel
theorem dX9_sparedOf_16 : decode cX9_sparedOf 16 = .ok (.getfield 255, 3) := by decide +kernel
theorem dX9_sparedOf_19 : decode cX9_sparedOf 19 = .ok (.if_icmp .ge 67, 3) := by decide +kernel
theorem dX9_sparedOf_22 : decode cX9_sparedOf 22 = .ok (.iload_n 2, 1) := by decide +kernel
theorem dX9_sparedOf_23 : decode cX9_sparedOf 23 = .ok (.aload_n 0, 1) := by decide +kernel
theorem dX9_sparedOf_24 : decode cX9_sparedOf 24 = .ok (.getfield 79, 3) := by decide +kernel
theorem dX9_sparedOf_27 : decode cX9_sparedOf 27 = .ok (.iload 4, 2) := by decide +kernel
theorem dX9_sparedOf_29 : decode cX9_sparedOf 29 = .ok (.iaload, 1) := by decide +kernel
theorem dX9_sparedOf_30 : decode cX9_sparedOf 30 = .ok (.aload_n 0, 1) := by decide +kernel
theorem dX9_sparedOf_31 : decode cX9_sparedOf 31 = .ok (.getfield 107, 3) := by decide +kernel
theorem dX9_sparedOf_34 : decode cX9_sparedOf 34 = .ok (.if_icmp .ge 43, 3) := by decide +kernel
theorem dX9_sparedOf_37 : decode cX9_sparedOf 37 = .ok (.aload_n 0, 1) := by decide +kernel
theorem dX9_sparedOf_38 : decode cX9_sparedOf 38 = .ok (.getfield 82, 3) := by decide +kernel
theorem dX9_sparedOf_41 : decode cX9_sparedOf 41 = .ok (.iload 4, 2) := by decide +kernel
theorem dX9_sparedOf_43 : decode cX9_sparedOf 43 = .ok (.iaload, 1) := by decide +kernel
theorem dX9_sparedOf_44 : decode cX9_sparedOf 44 = .ok (.aload_n 0, 1) := by decide +kernel
theorem dX9_sparedOf_45 : decode cX9_sparedOf 45 = .ok (.getfield 107, 3) := by decide +kernel
theorem dX9_sparedOf_48 : decode cX9_sparedOf 48 = .ok (.if_icmp .ge 29, 3) := by decide +kernel
theorem dX9_sparedOf_51 : decode cX9_sparedOf 51 = .ok (.iload_n 2, 1) := by decide +kernel
theorem dX9_sparedOf_52 : decode cX9_sparedOf 52 = .ok (.aload_n 0, 1) := by decide +kernel
theorem dX9_sparedOf_53 : decode cX9_sparedOf 53 = .ok (.getfield 79, 3) := by decide +kernel
theorem dX9_sparedOf_56 : decode cX9_sparedOf 56 = .ok (.iload 4, 2) := by decide +kernel
theorem dX9_sparedOf_58 : decode cX9_sparedOf 58 = .ok (.iaload, 1) := by decide +kernel
theorem dX9_sparedOf_59 : decode cX9_sparedOf 59 = .ok (.invokestatic 119, 3) := by decide +kernel
theorem dX9_sparedOf_62 : decode cX9_sparedOf 62 = .ok (.ifCond .eq 15, 3) := by decide +kernel
theorem dX9_sparedOf_65 : decode cX9_sparedOf 65 = .ok (.iconst 1, 1) := by decide +kernel
theorem dX9_sparedOf_66 : decode cX9_sparedOf 66 = .ok (.aload_n 0, 1) := by decide +kernel
theorem dX9_sparedOf_67 : decode cX9_sparedOf 67 = .ok (.getfield 82, 3) := by decide +kernel
theorem dX9_sparedOf_70 : decode cX9_sparedOf 70 = .ok (.iload 4, 2) := by decide +kernel
theorem dX9_sparedOf_72 : decode cX9_sparedOf 72 = .ok (.iaload, 1) := by decide +kernel
theorem dX9_sparedOf_73 : decode cX9_sparedOf 73 = .ok (.ishl, 1) := by decide +kernel
theorem dX9_sparedOf_74 : decode cX9_sparedOf 74 = .ok (.goto 4, 3) := by decide +kernel
theorem dX9_sparedOf_77 : decode cX9_sparedOf 77 = .ok (.iconst 0, 1) := by decide +kernel
theorem dX9_sparedOf_78 : decode cX9_sparedOf 78 = .ok (.ior, 1) := by decide +kernel
theorem dX9_sparedOf_79 : decode cX9_sparedOf 79 = .ok (.istore_n 2, 1) := by decide +kernel
theorem dX9_sparedOf_80 : decode cX9_sparedOf 80 = .ok (.iinc 4 1, 3) := by decide +kernel
theorem dX9_sparedOf_83 : decode cX9_sparedOf 83 = .ok (.goto (-70), 3) := by decide +kernel
theorem dX9_sparedOf_86 : decode cX9_sparedOf 86 = .ok (.iinc 3 1, 3) := by decide +kernel
theorem dX9_sparedOf_89 : decode cX9_sparedOf 89 = .ok (.goto (-85), 3) := by decide +kernel
theorem dX9_sparedOf_92 : decode cX9_sparedOf 92 = .ok (.aload_n 0, 1) := by decide +kernel
theorem dX9_sparedOf_93 : decode cX9_sparedOf 93 = .ok (.iload_n 2, 1) := by decide +kernel
theorem dX9_sparedOf_94 : decode cX9_sparedOf 94 = .ok (.iload_n 1, 1) := by decide +kernel
theorem dX9_sparedOf_95 : decode cX9_sparedOf 95 = .ok (.iconst (-1), 1) := by decide +kernel
theorem dX9_sparedOf_96 : decode cX9_sparedOf 96 = .ok (.ixor, 1) := by decide +kernel
theorem dX9_sparedOf_97 : decode cX9_sparedOf 97 = .ok (.iand, 1) := by decide +kernel
theorem dX9_sparedOf_98 : decode cX9_sparedOf 98 = .ok (.invokevirtual 195, 3) := by decide +kernel
theorem dX9_sparedOf_101 : decode cX9_sparedOf 101 = .ok (.ireturn, 1) := by decide +kernel
theorem dX9_allDeeds_0 : decode cX9_allDeeds 0 = .ok (.aload_n 0, 1) := by decide +kernel
theorem dX9_allDeeds_1 : decode cX9_allDeeds 1 = .ok (.invokevirtual 139, 3) := by decide +kernel
theorem dX9_allDeeds_4 : decode cX9_allDeeds 4 = .ok (.iconst 1, 1) := by decide +kernel
theorem dX9_allDeeds_5 : decode cX9_allDeeds 5 = .ok (.aload_n 0, 1) := by decide +kernel
theorem dX9_allDeeds_6 : decode cX9_allDeeds 6 = .ok (.getfield 107, 3) := by decide +kernel
theorem dX9_allDeeds_9 : decode cX9_allDeeds 9 = .ok (.ishl, 1) := by decide +kernel
theorem dX9_allDeeds_10 : decode cX9_allDeeds 10 = .ok (.iconst 1, 1) := by decide +kernel
theorem dX9_allDeeds_11 : decode cX9_allDeeds 11 = .ok (.isub, 1) := by decide +kernel
theorem dX9_allDeeds_12 : decode cX9_allDeeds 12 = .ok (.ireturn, 1) := by decide +kernel
theorem dX9_spared_0 : decode cX9_spared 0 = .ok (.iload_n 1, 1) := by decide +kernel
theorem dX9_spared_1 : decode cX9_spared 1 = .ok (.iconst 0, 1) := by decide +kernel
theorem dX9_spared_2 : decode cX9_spared 2 = .ok (.aload_n 0, 1) := by decide +kernel
theorem dX9_spared_3 : decode cX9_spared 3 = .ok (.invokevirtual 258, 3) := by decide +kernel
theorem dX9_spared_6 : decode cX9_spared 6 = .ok (.invokestatic 103, 3) := by decide +kernel
theorem dX9_spared_9 : decode cX9_spared 9 = .ok (.ifCond .eq 11, 3) := by decide +kernel
theorem dX9_spared_12 : decode cX9_spared 12 = .ok (.aload_n 0, 1) := by decide +kernel
theorem dX9_spared_13 : decode cX9_spared 13 = .ok (.iload_n 1, 1) := by decide +kernel
theorem dX9_spared_14 : decode cX9_spared 14 = .ok (.invokevirtual 261, 3) := by decide +kernel
theorem dX9_spared_17 : decode cX9_spared 17 = .ok (.goto 5, 3) := by decide +kernel
theorem dX9_spared_20 : decode cX9_spared 20 = .ok (.bipush (-2), 2) := by decide +kernel
theorem dX9_spared_22 : decode cX9_spared 22 = .ok (.ireturn, 1) := by decide +kernel
theorem dX9_bestNow_0 : decode cX9_bestNow 0 = .ok (.aload_n 0, 1) := by decide +kernel
theorem dX9_bestNow_1 : decode cX9_bestNow 1 = .ok (.invokevirtual 139, 3) := by decide +kernel
theorem dX9_bestNow_4 : decode cX9_bestNow 4 = .ok (.iconst (-1), 1) := by decide +kernel
theorem dX9_bestNow_5 : decode cX9_bestNow 5 = .ok (.istore_n 1, 1) := by decide +kernel
theorem dX9_bestNow_6 : decode cX9_bestNow 6 = .ok (.iconst 0, 1) := by decide +kernel
theorem dX9_bestNow_7 : decode cX9_bestNow 7 = .ok (.istore_n 2, 1) := by decide +kernel
theorem dX9_bestNow_8 : decode cX9_bestNow 8 = .ok (.iconst 0, 1) := by decide +kernel
theorem dX9_bestNow_9 : decode cX9_bestNow 9 = .ok (.istore_n 3, 1) := by decide +kernel
theorem dX9_bestNow_10 : decode cX9_bestNow 10 = .ok (.iload_n 3, 1) := by decide +kernel
theorem dX9_bestNow_11 : decode cX9_bestNow 11 = .ok (.aload_n 0, 1) := by decide +kernel
theorem dX9_bestNow_12 : decode cX9_bestNow 12 = .ok (.getfield 107, 3) := by decide +kernel
theorem dX9_bestNow_15 : decode cX9_bestNow 15 = .ok (.if_icmp .ge 50, 3) := by decide +kernel
theorem dX9_bestNow_18 : decode cX9_bestNow 18 = .ok (.aload_n 0, 1) := by decide +kernel
theorem dX9_bestNow_19 : decode cX9_bestNow 19 = .ok (.getfield 25, 3) := by decide +kernel
theorem dX9_bestNow_22 : decode cX9_bestNow 22 = .ok (.iload_n 3, 1) := by decide +kernel
theorem dX9_bestNow_23 : decode cX9_bestNow 23 = .ok (.iaload, 1) := by decide +kernel
theorem dX9_bestNow_24 : decode cX9_bestNow 24 = .ok (.aload_n 0, 1) := by decide +kernel
theorem dX9_bestNow_25 : decode cX9_bestNow 25 = .ok (.iconst 1, 1) := by decide +kernel
theorem dX9_bestNow_26 : decode cX9_bestNow 26 = .ok (.iload_n 3, 1) := by decide +kernel
theorem dX9_bestNow_27 : decode cX9_bestNow 27 = .ok (.ishl, 1) := by decide +kernel
theorem dX9_bestNow_28 : decode cX9_bestNow 28 = .ok (.invokevirtual 261, 3) := by decide +kernel
theorem dX9_bestNow_31 : decode cX9_bestNow 31 = .ok (.iadd, 1) := by decide +kernel
theorem dX9_bestNow_32 : decode cX9_bestNow 32 = .ok (.istore 4, 2) := by decide +kernel
theorem dX9_bestNow_34 : decode cX9_bestNow 34 = .ok (.iload 4, 2) := by decide +kernel
theorem dX9_bestNow_36 : decode cX9_bestNow 36 = .ok (.iload_n 2, 1) := by decide +kernel
theorem dX9_bestNow_37 : decode cX9_bestNow 37 = .ok (.if_icmp .le 7, 3) := by decide +kernel
theorem dX9_bestNow_40 : decode cX9_bestNow 40 = .ok (.iload_n 3, 1) := by decide +kernel
theorem dX9_bestNow_41 : decode cX9_bestNow 41 = .ok (.goto 4, 3) := by decide +kernel
theorem dX9_bestNow_44 : decode cX9_bestNow 44 = .ok (.iload_n 1, 1) := by decide +kernel
theorem dX9_bestNow_45 : decode cX9_bestNow 45 = .ok (.istore_n 1, 1) := by decide +kernel
theorem dX9_bestNow_46 : decode cX9_bestNow 46 = .ok (.iload 4, 2) := by decide +kernel
theorem dX9_bestNow_48 : decode cX9_bestNow 48 = .ok (.iload_n 2, 1) := by decide +kernel
theorem dX9_bestNow_49 : decode cX9_bestNow 49 = .ok (.if_icmp .le 8, 3) := by decide +kernel
theorem dX9_bestNow_52 : decode cX9_bestNow 52 = .ok (.iload 4, 2) := by decide +kernel
theorem dX9_bestNow_54 : decode cX9_bestNow 54 = .ok (.goto 4, 3) := by decide +kernel
theorem dX9_bestNow_57 : decode cX9_bestNow 57 = .ok (.iload_n 2, 1) := by decide +kernel
theorem dX9_bestNow_58 : decode cX9_bestNow 58 = .ok (.istore_n 2, 1) := by decide +kernel
theorem dX9_bestNow_59 : decode cX9_bestNow 59 = .ok (.iinc 3 1, 3) := by decide +kernel
theorem dX9_bestNow_62 : decode cX9_bestNow 62 = .ok (.goto (-52), 3) := by decide +kernel
theorem dX9_bestNow_65 : decode cX9_bestNow 65 = .ok (.iload_n 1, 1) := by decide +kernel
theorem dX9_bestNow_66 : decode cX9_bestNow 66 = .ok (.ireturn, 1) := by decide +kernel
theorem dX9_best_0 : decode cX9_best 0 = .ok (.aload_n 0, 1) := by decide +kernel
theorem dX9_best_1 : decode cX9_best 1 = .ok (.invokevirtual 264, 3) := by decide +kernel
theorem dX9_best_4 : decode cX9_best 4 = .ok (.ireturn, 1) := by decide +kernel
theorem dX9_regretsOf_0 : decode cX9_regretsOf 0 = .ok (.aload_n 0, 1) := by decide +kernel
theorem dX9_regretsOf_1 : decode cX9_regretsOf 1 = .ok (.invokevirtual 139, 3) := by decide +kernel
theorem dX9_regretsOf_4 : decode cX9_regretsOf 4 = .ok (.iconst 0, 1) := by decide +kernel
theorem dX9_regretsOf_5 : decode cX9_regretsOf 5 = .ok (.istore_n 3, 1) := by decide +kernel
theorem dX9_regretsOf_6 : decode cX9_regretsOf 6 = .ok (.iconst 0, 1) := by decide +kernel
theorem dX9_regretsOf_7 : decode cX9_regretsOf 7 = .ok (.istore 4, 2) := by decide +kernel
theorem dX9_regretsOf_9 : decode cX9_regretsOf 9 = .ok (.iload 4, 2) := by decide +kernel
theorem dX9_regretsOf_11 : decode cX9_regretsOf 11 = .ok (.aload_n 0, 1) := by decide +kernel
theorem dX9_regretsOf_12 : decode cX9_regretsOf 12 = .ok (.getfield 107, 3) := by decide +kernel
theorem dX9_regretsOf_15 : decode cX9_regretsOf 15 = .ok (.if_icmp .ge 26, 3) := by decide +kernel
theorem dX9_regretsOf_18 : decode cX9_regretsOf 18 = .ok (.iload_n 3, 1) := by decide +kernel
theorem dX9_regretsOf_19 : decode cX9_regretsOf 19 = .ok (.aload_n 0, 1) := by decide +kernel
theorem dX9_regretsOf_20 : decode cX9_regretsOf 20 = .ok (.iload 4, 2) := by decide +kernel
theorem dX9_regretsOf_22 : decode cX9_regretsOf 22 = .ok (.invokevirtual 179, 3) := by decide +kernel
theorem dX9_regretsOf_25 : decode cX9_regretsOf 25 = .ok (.ifCond .ne 7, 3) := by decide +kernel
theorem dX9_regretsOf_28 : decode cX9_regretsOf 28 = .ok (.iconst 1, 1) := by decide +kernel
theorem dX9_regretsOf_29 : decode cX9_regretsOf 29 = .ok (.goto 4, 3) := by decide +kernel
theorem dX9_regretsOf_32 : decode cX9_regretsOf 32 = .ok (.iconst 0, 1) := by decide +kernel
theorem dX9_regretsOf_33 : decode cX9_regretsOf 33 = .ok (.iadd, 1) := by decide +kernel
theorem dX9_regretsOf_34 : decode cX9_regretsOf 34 = .ok (.istore_n 3, 1) := by decide +kernel
theorem dX9_regretsOf_35 : decode cX9_regretsOf 35 = .ok (.iinc 4 1, 3) := by decide +kernel
theorem dX9_regretsOf_38 : decode cX9_regretsOf 38 = .ok (.goto (-29), 3) := by decide +kernel
theorem dX9_regretsOf_41 : decode cX9_regretsOf 41 = .ok (.iload_n 1, 1) := by decide +kernel
theorem dX9_regretsOf_42 : decode cX9_regretsOf 42 = .ok (.aload_n 0, 1) := by decide +kernel
theorem dX9_regretsOf_43 : decode cX9_regretsOf 43 = .ok (.getfield 107, 3) := by decide +kernel
theorem dX9_regretsOf_46 : decode cX9_regretsOf 46 = .ok (.if_icmp .le 11, 3) := by decide +kernel
theorem dX9_regretsOf_49 : decode cX9_regretsOf 49 = .ok (.bipush (-3), 2) := by decide +kernel
theorem dX9_regretsOf_51 : decode cX9_regretsOf 51 = .ok (.invokestatic 229, 3) := by decide +kernel
theorem dX9_regretsOf_54 : decode cX9_regretsOf 54 = .ok (.goto 20, 3) := by decide +kernel
theorem dX9_regretsOf_57 : decode cX9_regretsOf 57 = .ok (.iload_n 3, 1) := by decide +kernel
theorem dX9_regretsOf_58 : decode cX9_regretsOf 58 = .ok (.iload_n 1, 1) := by decide +kernel
theorem dX9_regretsOf_59 : decode cX9_regretsOf 59 = .ok (.invokestatic 267, 3) := by decide +kernel
theorem dX9_regretsOf_62 : decode cX9_regretsOf 62 = .ok (.aload_n 0, 1) := by decide +kernel
theorem dX9_regretsOf_63 : decode cX9_regretsOf 63 = .ok (.getfield 107, 3) := by decide +kernel
theorem dX9_regretsOf_66 : decode cX9_regretsOf 66 = .ok (.iload_n 1, 1) := by decide +kernel
theorem dX9_regretsOf_67 : decode cX9_regretsOf 67 = .ok (.invokestatic 267, 3) := by decide +kernel
theorem dX9_regretsOf_70 : decode cX9_regretsOf 70 = .ok (.iload_n 2, 1) := by decide +kernel
theorem dX9_regretsOf_71 : decode cX9_regretsOf 71 = .ok (.invokestatic 235, 3) := by decide +kernel
theorem dX9_regretsOf_74 : decode cX9_regretsOf 74 = .ok (.lreturn, 1) := by decide +kernel
theorem dX9_regrets_0 : decode cX9_regrets 0 = .ok (.iload_n 1, 1) := by decide +kernel
theorem dX9_regrets_1 : decode cX9_regrets 1 = .ok (.iconst 0, 1) := by decide +kernel
theorem dX9_regrets_2 : decode cX9_regrets 2 = .ok (.bipush 8, 2) := by decide +kernel
theorem dX9_regrets_4 : decode cX9_regrets 4 = .ok (.invokestatic 103, 3) := by decide +kernel
theorem dX9_regrets_7 : decode cX9_regrets 7 = .ok (.ifCond .eq 21, 3) := by decide +kernel
theorem dX9_regrets_10 : decode cX9_regrets 10 = .ok (.iload_n 2, 1) := by decide +kernel
theorem dX9_regrets_11 : decode cX9_regrets 11 = .ok (.iconst 0, 1) := by decide +kernel
theorem dX9_regrets_12 : decode cX9_regrets 12 = .ok (.iconst 1, 1) := by decide +kernel
theorem dX9_regrets_13 : decode cX9_regrets 13 = .ok (.invokestatic 103, 3) := by decide +kernel
theorem dX9_regrets_16 : decode cX9_regrets 16 = .ok (.ifCond .eq 12, 3) := by decide +kernel
theorem dX9_regrets_19 : decode cX9_regrets 19 = .ok (.aload_n 0, 1) := by decide +kernel
theorem dX9_regrets_20 : decode cX9_regrets 20 = .ok (.iload_n 1, 1) := by decide +kernel
theorem dX9_regrets_21 : decode cX9_regrets 21 = .ok (.iload_n 2, 1) := by decide +kernel
theorem dX9_regrets_22 : decode cX9_regrets 22 = .ok (.invokevirtual 271, 3) := by decide +kernel
theorem dX9_regrets_25 : decode cX9_regrets 25 = .ok (.goto 8, 3) := by decide +kernel
theorem dX9_regrets_28 : decode cX9_regrets 28 = .ok (.bipush (-2), 2) := by decide +kernel
theorem dX9_regrets_30 : decode cX9_regrets 30 = .ok (.invokestatic 229, 3) := by decide +kernel
theorem dX9_regrets_33 : decode cX9_regrets 33 = .ok (.lreturn, 1) := by decide +kernel
theorem dX9_meets_0 : decode cX9_meets 0 = .ok (.aload_n 0, 1) := by decide +kernel
theorem dX9_meets_1 : decode cX9_meets 1 = .ok (.iload_n 1, 1) := by decide +kernel
theorem dX9_meets_2 : decode cX9_meets 2 = .ok (.putfield 274, 3) := by decide +kernel
theorem dX9_meets_5 : decode cX9_meets 5 = .ok (.bipush (-10), 2) := by decide +kernel
theorem dX9_meets_7 : decode cX9_meets 7 = .ok (.iload_n 1, 1) := by decide +kernel
theorem dX9_meets_8 : decode cX9_meets 8 = .ok (.isub, 1) := by decide +kernel
theorem dX9_meets_9 : decode cX9_meets 9 = .ok (.ireturn, 1) := by decide +kernel
theorem dX9_isSheet_0 : decode cX9_isSheet 0 = .ok (.iload_n 0, 1) := by decide +kernel
theorem dX9_isSheet_1 : decode cX9_isSheet 1 = .ok (.iconst 0, 1) := by decide +kernel
theorem dX9_isSheet_2 : decode cX9_isSheet 2 = .ok (.iconst 3, 1) := by decide +kernel
theorem dX9_isSheet_3 : decode cX9_isSheet 3 = .ok (.invokestatic 103, 3) := by decide +kernel
theorem dX9_isSheet_6 : decode cX9_isSheet 6 = .ok (.ireturn, 1) := by decide +kernel
theorem dX9_sheet_0 : decode cX9_sheet 0 = .ok (.iload_n 1, 1) := by decide +kernel
theorem dX9_sheet_1 : decode cX9_sheet 1 = .ok (.invokestatic 158, 3) := by decide +kernel
theorem dX9_sheet_4 : decode cX9_sheet 4 = .ok (.ifCond .eq 18, 3) := by decide +kernel
theorem dX9_sheet_7 : decode cX9_sheet 7 = .ok (.iload_n 2, 1) := by decide +kernel
theorem dX9_sheet_8 : decode cX9_sheet 8 = .ok (.iconst 0, 1) := by decide +kernel
theorem dX9_sheet_9 : decode cX9_sheet 9 = .ok (.iconst 2, 1) := by decide +kernel
theorem dX9_sheet_10 : decode cX9_sheet 10 = .ok (.invokestatic 103, 3) := by decide +kernel
theorem dX9_sheet_13 : decode cX9_sheet 13 = .ok (.ifCond .eq 9, 3) := by decide +kernel
theorem dX9_sheet_16 : decode cX9_sheet 16 = .ok (.iload_n 3, 1) := by decide +kernel
theorem dX9_sheet_17 : decode cX9_sheet 17 = .ok (.bipush 60, 2) := by decide +kernel
theorem dX9_sheet_19 : decode cX9_sheet 19 = .ok (.if_icmp .le 6, 3) := by decide +kernel
theorem dX9_sheet_22 : decode cX9_sheet 22 = .ok (.bipush (-2), 2) := by decide +kernel
theorem dX9_sheet_24 : decode cX9_sheet 24 = .ok (.ireturn, 1) := by decide +kernel
theorem dX9_sheet_25 : decode cX9_sheet 25 = .ok (.iload_n 3, 1) := by decide +kernel
theorem dX9_sheet_26 : decode cX9_sheet 26 = .ok (.ifCond .ge 9, 3) := by decide +kernel
theorem dX9_sheet_29 : decode cX9_sheet 29 = .ok (.aload_n 0, 1) := by decide +kernel
theorem dX9_sheet_30 : decode cX9_sheet 30 = .ok (.iconst 5, 1) := by decide +kernel
theorem dX9_sheet_31 : decode cX9_sheet 31 = .ok (.invokevirtual 161, 3) := by decide +kernel
theorem dX9_sheet_34 : decode cX9_sheet 34 = .ok (.ireturn, 1) := by decide +kernel
theorem dX9_sheet_35 : decode cX9_sheet 35 = .ok (.aload_n 0, 1) := by decide +kernel
theorem dX9_sheet_36 : decode cX9_sheet 36 = .ok (.getfield 85, 3) := by decide +kernel
theorem dX9_sheet_39 : decode cX9_sheet 39 = .ok (.iload_n 1, 1) := by decide +kernel
theorem dX9_sheet_40 : decode cX9_sheet 40 = .ok (.iconst 1, 1) := by decide +kernel
theorem dX9_sheet_41 : decode cX9_sheet 41 = .ok (.bastore, 1) := by decide +kernel
theorem dX9_sheet_42 : decode cX9_sheet 42 = .ok (.aload_n 0, 1) := by decide +kernel
theorem dX9_sheet_43 : decode cX9_sheet 43 = .ok (.getfield 89, 3) := by decide +kernel
theorem dX9_sheet_46 : decode cX9_sheet 46 = .ok (.iload_n 1, 1) := by decide +kernel
theorem dX9_sheet_47 : decode cX9_sheet 47 = .ok (.iload_n 2, 1) := by decide +kernel
theorem dX9_sheet_48 : decode cX9_sheet 48 = .ok (.iastore, 1) := by decide +kernel
theorem dX9_sheet_49 : decode cX9_sheet 49 = .ok (.aload_n 0, 1) := by decide +kernel
theorem dX9_sheet_50 : decode cX9_sheet 50 = .ok (.getfield 92, 3) := by decide +kernel
theorem dX9_sheet_53 : decode cX9_sheet 53 = .ok (.iload_n 1, 1) := by decide +kernel
theorem dX9_sheet_54 : decode cX9_sheet 54 = .ok (.iload_n 3, 1) := by decide +kernel
theorem dX9_sheet_55 : decode cX9_sheet 55 = .ok (.iastore, 1) := by decide +kernel
theorem dX9_sheet_56 : decode cX9_sheet 56 = .ok (.iconst 0, 1) := by decide +kernel
theorem dX9_sheet_57 : decode cX9_sheet 57 = .ok (.istore 4, 2) := by decide +kernel
theorem dX9_sheet_59 : decode cX9_sheet 59 = .ok (.iload 4, 2) := by decide +kernel
theorem dX9_sheet_61 : decode cX9_sheet 61 = .ok (.bipush 60, 2) := by decide +kernel
theorem dX9_sheet_63 : decode cX9_sheet 63 = .ok (.if_icmp .ge 22, 3) := by decide +kernel
theorem dX9_sheet_66 : decode cX9_sheet 66 = .ok (.aload_n 0, 1) := by decide +kernel
theorem dX9_sheet_67 : decode cX9_sheet 67 = .ok (.getfield 95, 3) := by decide +kernel
theorem dX9_sheet_70 : decode cX9_sheet 70 = .ok (.bipush 60, 2) := by decide +kernel
theorem dX9_sheet_72 : decode cX9_sheet 72 = .ok (.iload_n 1, 1) := by decide +kernel
theorem dX9_sheet_73 : decode cX9_sheet 73 = .ok (.imul, 1) := by decide +kernel
theorem dX9_sheet_74 : decode cX9_sheet 74 = .ok (.iload 4, 2) := by decide +kernel
theorem dX9_sheet_76 : decode cX9_sheet 76 = .ok (.iadd, 1) := by decide +kernel
theorem dX9_sheet_77 : decode cX9_sheet 77 = .ok (.iconst 0, 1) := by decide +kernel
theorem dX9_sheet_78 : decode cX9_sheet 78 = .ok (.iastore, 1) := by decide +kernel
theorem dX9_sheet_79 : decode cX9_sheet 79 = .ok (.iinc 4 1, 3) := by decide +kernel
theorem dX9_sheet_82 : decode cX9_sheet 82 = .ok (.goto (-23), 3) := by decide +kernel
theorem dX9_sheet_85 : decode cX9_sheet 85 = .ok (.iload_n 3, 1) := by decide +kernel
theorem dX9_sheet_86 : decode cX9_sheet 86 = .ok (.ireturn, 1) := by decide +kernel
theorem dX9_lose_0 : decode cX9_lose 0 = .ok (.iload_n 1, 1) := by decide +kernel
theorem dX9_lose_1 : decode cX9_lose 1 = .ok (.invokestatic 158, 3) := by decide +kernel
theorem dX9_lose_4 : decode cX9_lose 4 = .ok (.ifCond .ne 6, 3) := by decide +kernel
theorem dX9_lose_7 : decode cX9_lose 7 = .ok (.bipush (-2), 2) := by decide +kernel
theorem dX9_lose_9 : decode cX9_lose 9 = .ok (.ireturn, 1) := by decide +kernel
theorem dX9_lose_10 : decode cX9_lose 10 = .ok (.aload_n 0, 1) := by decide +kernel
theorem dX9_lose_11 : decode cX9_lose 11 = .ok (.getfield 85, 3) := by decide +kernel
theorem dX9_lose_14 : decode cX9_lose 14 = .ok (.iload_n 1, 1) := by decide +kernel
theorem dX9_lose_15 : decode cX9_lose 15 = .ok (.baload, 1) := by decide +kernel
theorem dX9_lose_16 : decode cX9_lose 16 = .ok (.ifCond .ne 9, 3) := by decide +kernel
theorem dX9_lose_19 : decode cX9_lose 19 = .ok (.aload_n 0, 1) := by decide +kernel
theorem dX9_lose_20 : decode cX9_lose 20 = .ok (.iconst 1, 1) := by decide +kernel
theorem dX9_lose_21 : decode cX9_lose 21 = .ok (.invokevirtual 161, 3) := by decide +kernel
theorem dX9_lose_24 : decode cX9_lose 24 = .ok (.ireturn, 1) := by decide +kernel
theorem dX9_lose_25 : decode cX9_lose 25 = .ok (.aload_n 0, 1) := by decide +kernel
theorem dX9_lose_26 : decode cX9_lose 26 = .ok (.getfield 85, 3) := by decide +kernel
theorem dX9_lose_29 : decode cX9_lose 29 = .ok (.iload_n 1, 1) := by decide +kernel
theorem dX9_lose_30 : decode cX9_lose 30 = .ok (.iconst 0, 1) := by decide +kernel
theorem dX9_lose_31 : decode cX9_lose 31 = .ok (.bastore, 1) := by decide +kernel
theorem dX9_lose_32 : decode cX9_lose 32 = .ok (.aload_n 0, 1) := by decide +kernel
theorem dX9_lose_33 : decode cX9_lose 33 = .ok (.getfield 92, 3) := by decide +kernel
theorem dX9_lose_36 : decode cX9_lose 36 = .ok (.iload_n 1, 1) := by decide +kernel
theorem dX9_lose_37 : decode cX9_lose 37 = .ok (.iaload, 1) := by decide +kernel
theorem dX9_lose_38 : decode cX9_lose 38 = .ok (.ireturn, 1) := by decide +kernel
theorem dX9_lacks_0 : decode cX9_lacks 0 = .ok (.aload_n 0, 1) := by decide +kernel
theorem dX9_lacks_1 : decode cX9_lacks 1 = .ok (.getfield 85, 3) := by decide +kernel
theorem dX9_lacks_4 : decode cX9_lacks 4 = .ok (.iload_n 1, 1) := by decide +kernel
theorem dX9_lacks_5 : decode cX9_lacks 5 = .ok (.baload, 1) := by decide +kernel
theorem dX9_lacks_6 : decode cX9_lacks 6 = .ok (.ifCond .ne 7, 3) := by decide +kernel
theorem dX9_lacks_9 : decode cX9_lacks 9 = .ok (.iconst 1, 1) := by decide +kernel
theorem dX9_lacks_10 : decode cX9_lacks 10 = .ok (.goto 38, 3) := by decide +kernel
theorem dX9_lacks_13 : decode cX9_lacks 13 = .ok (.aload_n 0, 1) := by decide +kernel
theorem dX9_lacks_14 : decode cX9_lacks 14 = .ok (.getfield 89, 3) := by decide +kernel
theorem dX9_lacks_17 : decode cX9_lacks 17 = .ok (.iload_n 1, 1) := by decide +kernel
theorem dX9_lacks_18 : decode cX9_lacks 18 = .ok (.iaload, 1) := by decide +kernel
theorem dX9_lacks_19 : decode cX9_lacks 19 = .ok (.iload_n 2, 1) := by decide +kernel
theorem dX9_lacks_20 : decode cX9_lacks 20 = .ok (.if_icmp .eq 7, 3) := by decide +kernel
theorem dX9_lacks_23 : decode cX9_lacks 23 = .ok (.iconst 3, 1) := by decide +kernel
theorem dX9_lacks_24 : decode cX9_lacks 24 = .ok (.goto 24, 3) := by decide +kernel
theorem dX9_lacks_27 : decode cX9_lacks 27 = .ok (.iload_n 3, 1) := by decide +kernel
theorem dX9_lacks_28 : decode cX9_lacks 28 = .ok (.iconst 0, 1) := by decide +kernel
theorem dX9_lacks_29 : decode cX9_lacks 29 = .ok (.aload_n 0, 1) := by decide +kernel
theorem dX9_lacks_30 : decode cX9_lacks 30 = .ok (.getfield 92, 3) := by decide +kernel
theorem dX9_lacks_33 : decode cX9_lacks 33 = .ok (.iload_n 1, 1) := by decide +kernel
theorem dX9_lacks_34 : decode cX9_lacks 34 = .ok (.iaload, 1) := by decide +kernel
theorem dX9_lacks_35 : decode cX9_lacks 35 = .ok (.iconst 1, 1) := by decide +kernel
theorem dX9_lacks_36 : decode cX9_lacks 36 = .ok (.isub, 1) := by decide +kernel
theorem dX9_lacks_37 : decode cX9_lacks 37 = .ok (.invokestatic 103, 3) := by decide +kernel
theorem dX9_lacks_40 : decode cX9_lacks 40 = .ok (.ifCond .eq 7, 3) := by decide +kernel
theorem dX9_lacks_43 : decode cX9_lacks 43 = .ok (.iconst 0, 1) := by decide +kernel
theorem dX9_lacks_44 : decode cX9_lacks 44 = .ok (.goto 4, 3) := by decide +kernel
theorem dX9_lacks_47 : decode cX9_lacks 47 = .ok (.iconst 2, 1) := by decide +kernel
theorem dX9_lacks_48 : decode cX9_lacks 48 = .ok (.ireturn, 1) := by decide +kernel
theorem dX9_keep_0 : decode cX9_keep 0 = .ok (.aload_n 0, 1) := by decide +kernel
theorem dX9_keep_1 : decode cX9_keep 1 = .ok (.getfield 95, 3) := by decide +kernel
theorem dX9_keep_4 : decode cX9_keep 4 = .ok (.bipush 60, 2) := by decide +kernel
theorem dX9_keep_6 : decode cX9_keep 6 = .ok (.iload_n 1, 1) := by decide +kernel
theorem dX9_keep_7 : decode cX9_keep 7 = .ok (.imul, 1) := by decide +kernel
theorem dX9_keep_8 : decode cX9_keep 8 = .ok (.iload_n 2, 1) := by decide +kernel
theorem dX9_keep_9 : decode cX9_keep 9 = .ok (.iadd, 1) := by decide +kernel
theorem dX9_keep_10 : decode cX9_keep 10 = .ok (.aload_n 0, 1) := by decide +kernel
theorem dX9_keep_11 : decode cX9_keep 11 = .ok (.getfield 89, 3) := by decide +kernel
theorem dX9_keep_14 : decode cX9_keep 14 = .ok (.iload_n 1, 1) := by decide +kernel
theorem dX9_keep_15 : decode cX9_keep 15 = .ok (.iaload, 1) := by decide +kernel
theorem dX9_keep_16 : decode cX9_keep 16 = .ok (.ifCond .ne 8, 3) := by decide +kernel
theorem dX9_keep_19 : decode cX9_keep 19 = .ok (.iload_n 3, 1) := by decide +kernel
theorem dX9_keep_20 : decode cX9_keep 20 = .ok (.i2b, 1) := by decide +kernel
theorem dX9_keep_21 : decode cX9_keep 21 = .ok (.goto 19, 3) := by decide +kernel
theorem dX9_keep_24 : decode cX9_keep 24 = .ok (.aload_n 0, 1) := by decide +kernel
theorem dX9_keep_25 : decode cX9_keep 25 = .ok (.getfield 89, 3) := by decide +kernel
theorem dX9_keep_28 : decode cX9_keep 28 = .ok (.iload_n 1, 1) := by decide +kernel
theorem dX9_keep_29 : decode cX9_keep 29 = .ok (.iaload, 1) := by decide +kernel
theorem dX9_keep_30 : decode cX9_keep 30 = .ok (.iconst 1, 1) := by decide +kernel
theorem dX9_keep_31 : decode cX9_keep 31 = .ok (.if_icmp .ne 8, 3) := by decide +kernel
theorem dX9_keep_34 : decode cX9_keep 34 = .ok (.iload_n 3, 1) := by decide +kernel
theorem dX9_keep_35 : decode cX9_keep 35 = .ok (.i2s, 1) := by decide +kernel
theorem dX9_keep_36 : decode cX9_keep 36 = .ok (.goto 4, 3) := by decide +kernel
theorem dX9_keep_39 : decode cX9_keep 39 = .ok (.iload_n 3, 1) := by decide +kernel
theorem dX9_keep_40 : decode cX9_keep 40 = .ok (.iastore, 1) := by decide +kernel
theorem dX9_keep_41 : decode cX9_keep 41 = .ok (.return_, 1) := by decide +kernel
theorem dX9_put_0 : decode cX9_put 0 = .ok (.iload_n 1, 1) := by decide +kernel
theorem dX9_put_1 : decode cX9_put 1 = .ok (.invokestatic 158, 3) := by decide +kernel
theorem dX9_put_4 : decode cX9_put 4 = .ok (.ifCond .eq 12, 3) := by decide +kernel
theorem dX9_put_7 : decode cX9_put 7 = .ok (.iload_n 2, 1) := by decide +kernel
theorem dX9_put_8 : decode cX9_put 8 = .ok (.iconst 0, 1) := by decide +kernel
theorem dX9_put_9 : decode cX9_put 9 = .ok (.iconst 2, 1) := by decide +kernel
theorem dX9_put_10 : decode cX9_put 10 = .ok (.invokestatic 103, 3) := by decide +kernel
theorem dX9_put_13 : decode cX9_put 13 = .ok (.ifCond .ne 6, 3) := by decide +kernel
theorem dX9_put_16 : decode cX9_put 16 = .ok (.bipush (-2), 2) := by decide +kernel
theorem dX9_put_18 : decode cX9_put 18 = .ok (.ireturn, 1) := by decide +kernel
theorem dX9_put_19 : decode cX9_put 19 = .ok (.aload_n 0, 1) := by decide +kernel
theorem dX9_put_20 : decode cX9_put 20 = .ok (.iload_n 1, 1) := by decide +kernel
theorem dX9_put_21 : decode cX9_put 21 = .ok (.iload_n 2, 1) := by decide +kernel
theorem dX9_put_22 : decode cX9_put 22 = .ok (.iload_n 3, 1) := by decide +kernel
theorem dX9_put_23 : decode cX9_put 23 = .ok (.invokevirtual 277, 3) := by decide +kernel
theorem dX9_put_26 : decode cX9_put 26 = .ok (.istore 5, 2) := by decide +kernel
theorem dX9_put_28 : decode cX9_put 28 = .ok (.iload 5, 2) := by decide +kernel
theorem dX9_put_30 : decode cX9_put 30 = .ok (.ifCond .le 10, 3) := by decide +kernel
theorem dX9_put_33 : decode cX9_put 33 = .ok (.aload_n 0, 1) := by decide +kernel
theorem dX9_put_34 : decode cX9_put 34 = .ok (.iload 5, 2) := by decide +kernel
theorem dX9_put_36 : decode cX9_put 36 = .ok (.invokevirtual 161, 3) := by decide +kernel
theorem dX9_put_39 : decode cX9_put 39 = .ok (.ireturn, 1) := by decide +kernel
theorem dX9_put_40 : decode cX9_put 40 = .ok (.aload_n 0, 1) := by decide +kernel
theorem dX9_put_41 : decode cX9_put 41 = .ok (.iload_n 1, 1) := by decide +kernel
theorem dX9_put_42 : decode cX9_put 42 = .ok (.iload_n 3, 1) := by decide +kernel
theorem dX9_put_43 : decode cX9_put 43 = .ok (.iload 4, 2) := by decide +kernel
theorem dX9_put_45 : decode cX9_put 45 = .ok (.invokevirtual 281, 3) := by decide +kernel
theorem dX9_put_48 : decode cX9_put 48 = .ok (.iconst 1, 1) := by decide +kernel
theorem dX9_put_49 : decode cX9_put 49 = .ok (.ireturn, 1) := by decide +kernel
theorem dX9_get_0 : decode cX9_get 0 = .ok (.iload_n 1, 1) := by decide +kernel
theorem dX9_get_1 : decode cX9_get 1 = .ok (.invokestatic 158, 3) := by decide +kernel
theorem dX9_get_4 : decode cX9_get 4 = .ok (.ifCond .eq 12, 3) := by decide +kernel
theorem dX9_get_7 : decode cX9_get 7 = .ok (.iload_n 2, 1) := by decide +kernel
theorem dX9_get_8 : decode cX9_get 8 = .ok (.iconst 0, 1) := by decide +kernel
theorem dX9_get_9 : decode cX9_get 9 = .ok (.iconst 2, 1) := by decide +kernel
theorem dX9_get_10 : decode cX9_get 10 = .ok (.invokestatic 103, 3) := by decide +kernel
theorem dX9_get_13 : decode cX9_get 13 = .ok (.ifCond .ne 7, 3) := by decide +kernel
theorem dX9_get_16 : decode cX9_get 16 = .ok (.ldc_w 285, 3) := by decide +kernel
theorem dX9_get_19 : decode cX9_get 19 = .ok (.ireturn, 1) := by decide +kernel
theorem dX9_get_20 : decode cX9_get 20 = .ok (.aload_n 0, 1) := by decide +kernel
theorem dX9_get_21 : decode cX9_get 21 = .ok (.iload_n 1, 1) := by decide +kernel
theorem dX9_get_22 : decode cX9_get 22 = .ok (.iload_n 2, 1) := by decide +kernel
theorem dX9_get_23 : decode cX9_get 23 = .ok (.iload_n 3, 1) := by decide +kernel
theorem dX9_get_24 : decode cX9_get 24 = .ok (.invokevirtual 277, 3) := by decide +kernel
theorem dX9_get_27 : decode cX9_get 27 = .ok (.istore 4, 2) := by decide +kernel
theorem dX9_get_29 : decode cX9_get 29 = .ok (.iload 4, 2) := by decide +kernel
theorem dX9_get_31 : decode cX9_get 31 = .ok (.ifCond .le 13, 3) := by decide +kernel
theorem dX9_get_34 : decode cX9_get 34 = .ok (.aload_n 0, 1) := by decide +kernel
theorem dX9_get_35 : decode cX9_get 35 = .ok (.iload 4, 2) := by decide +kernel
theorem dX9_get_37 : decode cX9_get 37 = .ok (.putfield 274, 3) := by decide +kernel
theorem dX9_get_40 : decode cX9_get 40 = .ok (.ldc_w 285, 3) := by decide +kernel
theorem dX9_get_43 : decode cX9_get 43 = .ok (.ireturn, 1) := by decide +kernel
theorem dX9_get_44 : decode cX9_get 44 = .ok (.aload_n 0, 1) := by decide +kernel
theorem dX9_get_45 : decode cX9_get 45 = .ok (.getfield 95, 3) := by decide +kernel
theorem dX9_get_48 : decode cX9_get 48 = .ok (.bipush 60, 2) := by decide +kernel
theorem dX9_get_50 : decode cX9_get 50 = .ok (.iload_n 1, 1) := by decide +kernel
theorem dX9_get_51 : decode cX9_get 51 = .ok (.imul, 1) := by decide +kernel
theorem dX9_get_52 : decode cX9_get 52 = .ok (.iload_n 3, 1) := by decide +kernel
theorem dX9_get_53 : decode cX9_get 53 = .ok (.iadd, 1) := by decide +kernel
theorem dX9_get_54 : decode cX9_get 54 = .ok (.iaload, 1) := by decide +kernel
theorem dX9_get_55 : decode cX9_get 55 = .ok (.ireturn, 1) := by decide +kernel
theorem dX9_copy_0 : decode cX9_copy 0 = .ok (.iload_n 1, 1) := by decide +kernel
theorem dX9_copy_1 : decode cX9_copy 1 = .ok (.invokestatic 158, 3) := by decide +kernel
theorem dX9_copy_4 : decode cX9_copy 4 = .ok (.ifCond .eq 10, 3) := by decide +kernel
theorem dX9_copy_7 : decode cX9_copy 7 = .ok (.iload_n 3, 1) := by decide +kernel
theorem dX9_copy_8 : decode cX9_copy 8 = .ok (.invokestatic 158, 3) := by decide +kernel
theorem dX9_copy_11 : decode cX9_copy 11 = .ok (.ifCond .ne 6, 3) := by decide +kernel
theorem dX9_copy_14 : decode cX9_copy 14 = .ok (.bipush (-2), 2) := by decide +kernel
theorem dX9_copy_16 : decode cX9_copy 16 = .ok (.ireturn, 1) := by decide +kernel
theorem dX9_copy_17 : decode cX9_copy 17 = .ok (.aload_n 0, 1) := by decide +kernel
theorem dX9_copy_18 : decode cX9_copy 18 = .ok (.getfield 85, 3) := by decide +kernel
theorem dX9_copy_21 : decode cX9_copy 21 = .ok (.iload_n 1, 1) := by decide +kernel
theorem dX9_copy_22 : decode cX9_copy 22 = .ok (.baload, 1) := by decide +kernel
theorem dX9_copy_23 : decode cX9_copy 23 = .ok (.ifCond .eq 12, 3) := by decide +kernel
theorem dX9_copy_26 : decode cX9_copy 26 = .ok (.aload_n 0, 1) := by decide +kernel
theorem dX9_copy_27 : decode cX9_copy 27 = .ok (.getfield 85, 3) := by decide +kernel
theorem dX9_copy_30 : decode cX9_copy 30 = .ok (.iload_n 3, 1) := by decide +kernel
theorem dX9_copy_31 : decode cX9_copy 31 = .ok (.baload, 1) := by decide +kernel
theorem dX9_copy_32 : decode cX9_copy 32 = .ok (.ifCond .ne 9, 3) := by decide +kernel
theorem dX9_copy_35 : decode cX9_copy 35 = .ok (.aload_n 0, 1) := by decide +kernel
theorem dX9_copy_36 : decode cX9_copy 36 = .ok (.iconst 1, 1) := by decide +kernel
theorem dX9_copy_37 : decode cX9_copy 37 = .ok (.invokevirtual 161, 3) := by decide +kernel
theorem dX9_copy_40 : decode cX9_copy 40 = .ok (.ireturn, 1) := by decide +kernel
theorem dX9_copy_41 : decode cX9_copy 41 = .ok (.aload_n 0, 1) := by decide +kernel
theorem dX9_copy_42 : decode cX9_copy 42 = .ok (.getfield 89, 3) := by decide +kernel
theorem dX9_copy_45 : decode cX9_copy 45 = .ok (.iload_n 1, 1) := by decide +kernel
theorem dX9_copy_46 : decode cX9_copy 46 = .ok (.iaload, 1) := by decide +kernel
theorem dX9_copy_47 : decode cX9_copy 47 = .ok (.aload_n 0, 1) := by decide +kernel
theorem dX9_copy_48 : decode cX9_copy 48 = .ok (.getfield 89, 3) := by decide +kernel
theorem dX9_copy_51 : decode cX9_copy 51 = .ok (.iload_n 3, 1) := by decide +kernel
theorem dX9_copy_52 : decode cX9_copy 52 = .ok (.iaload, 1) := by decide +kernel
theorem dX9_copy_53 : decode cX9_copy 53 = .ok (.if_icmp .eq 9, 3) := by decide +kernel
theorem dX9_copy_56 : decode cX9_copy 56 = .ok (.aload_n 0, 1) := by decide +kernel
theorem dX9_copy_57 : decode cX9_copy 57 = .ok (.iconst 4, 1) := by decide +kernel
theorem dX9_copy_58 : decode cX9_copy 58 = .ok (.invokevirtual 161, 3) := by decide +kernel
theorem dX9_copy_61 : decode cX9_copy 61 = .ok (.ireturn, 1) := by decide +kernel
theorem dX9_copy_62 : decode cX9_copy 62 = .ok (.iload_n 2, 1) := by decide +kernel
theorem dX9_copy_63 : decode cX9_copy 63 = .ok (.ifCond .lt 48, 3) := by decide +kernel
theorem dX9_copy_66 : decode cX9_copy 66 = .ok (.iload 4, 2) := by decide +kernel
theorem dX9_copy_68 : decode cX9_copy 68 = .ok (.ifCond .lt 43, 3) := by decide +kernel
theorem dX9_copy_71 : decode cX9_copy 71 = .ok (.iload 5, 2) := by decide +kernel
theorem dX9_copy_73 : decode cX9_copy 73 = .ok (.ifCond .lt 38, 3) := by decide +kernel
theorem dX9_copy_76 : decode cX9_copy 76 = .ok (.iload_n 2, 1) := by decide +kernel
theorem dX9_copy_77 : decode cX9_copy 77 = .ok (.i2l, 1) := by decide +kernel
theorem dX9_copy_78 : decode cX9_copy 78 = .ok (.iload 5, 2) := by decide +kernel
theorem dX9_copy_80 : decode cX9_copy 80 = .ok (.i2l, 1) := by decide +kernel
theorem dX9_copy_81 : decode cX9_copy 81 = .ok (.ladd, 1) := by decide +kernel
theorem dX9_copy_82 : decode cX9_copy 82 = .ok (.aload_n 0, 1) := by decide +kernel
theorem dX9_copy_83 : decode cX9_copy 83 = .ok (.getfield 92, 3) := by decide +kernel
theorem dX9_copy_86 : decode cX9_copy 86 = .ok (.iload_n 1, 1) := by decide +kernel
theorem dX9_copy_87 : decode cX9_copy 87 = .ok (.iaload, 1) := by decide +kernel
theorem dX9_copy_88 : decode cX9_copy 88 = .ok (.i2l, 1) := by decide +kernel
theorem dX9_copy_89 : decode cX9_copy 89 = .ok (.lcmp, 1) := by decide +kernel
theorem dX9_copy_90 : decode cX9_copy 90 = .ok (.ifCond .gt 21, 3) := by decide +kernel
theorem dX9_copy_93 : decode cX9_copy 93 = .ok (.iload 4, 2) := by decide +kernel
theorem dX9_copy_95 : decode cX9_copy 95 = .ok (.i2l, 1) := by decide +kernel
theorem dX9_copy_96 : decode cX9_copy 96 = .ok (.iload 5, 2) := by decide +kernel
theorem dX9_copy_98 : decode cX9_copy 98 = .ok (.i2l, 1) := by decide +kernel
theorem dX9_copy_99 : decode cX9_copy 99 = .ok (.ladd, 1) := by decide +kernel
theorem dX9_copy_100 : decode cX9_copy 100 = .ok (.aload_n 0, 1) := by decide +kernel
theorem dX9_copy_101 : decode cX9_copy 101 = .ok (.getfield 92, 3) := by decide +kernel
theorem dX9_copy_104 : decode cX9_copy 104 = .ok (.iload_n 3, 1) := by decide +kernel
theorem dX9_copy_105 : decode cX9_copy 105 = .ok (.iaload, 1) := by decide +kernel
theorem dX9_copy_106 : decode cX9_copy 106 = .ok (.i2l, 1) := by decide +kernel
theorem dX9_copy_107 : decode cX9_copy 107 = .ok (.lcmp, 1) := by decide +kernel
theorem dX9_copy_108 : decode cX9_copy 108 = .ok (.ifCond .le 9, 3) := by decide +kernel
theorem dX9_copy_111 : decode cX9_copy 111 = .ok (.aload_n 0, 1) := by decide +kernel
theorem dX9_copy_112 : decode cX9_copy 112 = .ok (.iconst 2, 1) := by decide +kernel
theorem dX9_copy_113 : decode cX9_copy 113 = .ok (.invokevirtual 161, 3) := by decide +kernel
theorem dX9_copy_116 : decode cX9_copy 116 = .ok (.ireturn, 1) := by decide +kernel
theorem dX9_copy_117 : decode cX9_copy 117 = .ok (.iconst 0, 1) := by decide +kernel
theorem dX9_copy_118 : decode cX9_copy 118 = .ok (.istore 6, 2) := by decide +kernel
theorem dX9_copy_120 : decode cX9_copy 120 = .ok (.iload 6, 2) := by decide +kernel
theorem dX9_copy_122 : decode cX9_copy 122 = .ok (.iload 5, 2) := by decide +kernel
theorem dX9_copy_124 : decode cX9_copy 124 = .ok (.if_icmp .ge 30, 3) := by decide +kernel
theorem dX9_copy_127 : decode cX9_copy 127 = .ok (.aload_n 0, 1) := by decide +kernel
theorem dX9_copy_128 : decode cX9_copy 128 = .ok (.getfield 98, 3) := by decide +kernel
theorem dX9_copy_131 : decode cX9_copy 131 = .ok (.iload 6, 2) := by decide +kernel
theorem dX9_copy_133 : decode cX9_copy 133 = .ok (.aload_n 0, 1) := by decide +kernel
theorem dX9_copy_134 : decode cX9_copy 134 = .ok (.getfield 95, 3) := by decide +kernel
theorem dX9_copy_137 : decode cX9_copy 137 = .ok (.bipush 60, 2) := by decide +kernel
theorem dX9_copy_139 : decode cX9_copy 139 = .ok (.iload_n 1, 1) := by decide +kernel
theorem dX9_copy_140 : decode cX9_copy 140 = .ok (.imul, 1) := by decide +kernel
theorem dX9_copy_141 : decode cX9_copy 141 = .ok (.iload_n 2, 1) := by decide +kernel
theorem dX9_copy_142 : decode cX9_copy 142 = .ok (.iadd, 1) := by decide +kernel
theorem dX9_copy_143 : decode cX9_copy 143 = .ok (.iload 6, 2) := by decide +kernel
theorem dX9_copy_145 : decode cX9_copy 145 = .ok (.iadd, 1) := by decide +kernel
theorem dX9_copy_146 : decode cX9_copy 146 = .ok (.iaload, 1) := by decide +kernel
theorem dX9_copy_147 : decode cX9_copy 147 = .ok (.iastore, 1) := by decide +kernel
theorem dX9_copy_148 : decode cX9_copy 148 = .ok (.iinc 6 1, 3) := by decide +kernel
theorem dX9_copy_151 : decode cX9_copy 151 = .ok (.goto (-31), 3) := by decide +kernel
theorem dX9_copy_154 : decode cX9_copy 154 = .ok (.iconst 0, 1) := by decide +kernel
theorem dX9_copy_155 : decode cX9_copy 155 = .ok (.istore 6, 2) := by decide +kernel
theorem dX9_copy_157 : decode cX9_copy 157 = .ok (.iload 6, 2) := by decide +kernel
theorem dX9_copy_159 : decode cX9_copy 159 = .ok (.iload 5, 2) := by decide +kernel
theorem dX9_copy_161 : decode cX9_copy 161 = .ok (.if_icmp .ge 31, 3) := by decide +kernel
theorem dX9_copy_164 : decode cX9_copy 164 = .ok (.aload_n 0, 1) := by decide +kernel
theorem dX9_copy_165 : decode cX9_copy 165 = .ok (.getfield 95, 3) := by decide +kernel
theorem dX9_copy_168 : decode cX9_copy 168 = .ok (.bipush 60, 2) := by decide +kernel
theorem dX9_copy_170 : decode cX9_copy 170 = .ok (.iload_n 3, 1) := by decide +kernel
theorem dX9_copy_171 : decode cX9_copy 171 = .ok (.imul, 1) := by decide +kernel
theorem dX9_copy_172 : decode cX9_copy 172 = .ok (.iload 4, 2) := by decide +kernel
theorem dX9_copy_174 : decode cX9_copy 174 = .ok (.iadd, 1) := by decide +kernel
theorem dX9_copy_175 : decode cX9_copy 175 = .ok (.iload 6, 2) := by decide +kernel
theorem dX9_copy_177 : decode cX9_copy 177 = .ok (.iadd, 1) := by decide +kernel
theorem dX9_copy_178 : decode cX9_copy 178 = .ok (.aload_n 0, 1) := by decide +kernel
theorem dX9_copy_179 : decode cX9_copy 179 = .ok (.getfield 98, 3) := by decide +kernel
theorem dX9_copy_182 : decode cX9_copy 182 = .ok (.iload 6, 2) := by decide +kernel
theorem dX9_copy_184 : decode cX9_copy 184 = .ok (.iaload, 1) := by decide +kernel
theorem dX9_copy_185 : decode cX9_copy 185 = .ok (.iastore, 1) := by decide +kernel
theorem dX9_copy_186 : decode cX9_copy 186 = .ok (.iinc 6 1, 3) := by decide +kernel
theorem dX9_copy_189 : decode cX9_copy 189 = .ok (.goto (-32), 3) := by decide +kernel
theorem dX9_copy_192 : decode cX9_copy 192 = .ok (.iconst 1, 1) := by decide +kernel
theorem dX9_copy_193 : decode cX9_copy 193 = .ok (.ireturn, 1) := by decide +kernel
theorem dX9_write_0 : decode cX9_write 0 = .ok (.iload_n 1, 1) := by decide +kernel
theorem dX9_write_1 : decode cX9_write 1 = .ok (.invokestatic 158, 3) := by decide +kernel
theorem dX9_write_4 : decode cX9_write 4 = .ok (.ifCond .ne 6, 3) := by decide +kernel
theorem dX9_write_7 : decode cX9_write 7 = .ok (.bipush (-2), 2) := by decide +kernel
theorem dX9_write_9 : decode cX9_write 9 = .ok (.ireturn, 1) := by decide +kernel
theorem dX9_write_10 : decode cX9_write 10 = .ok (.aload_n 0, 1) := by decide +kernel
theorem dX9_write_11 : decode cX9_write 11 = .ok (.getfield 85, 3) := by decide +kernel
theorem dX9_write_14 : decode cX9_write 14 = .ok (.iload_n 1, 1) := by decide +kernel
theorem dX9_write_15 : decode cX9_write 15 = .ok (.baload, 1) := by decide +kernel
theorem dX9_write_16 : decode cX9_write 16 = .ok (.ifCond .ne 9, 3) := by decide +kernel
theorem dX9_write_19 : decode cX9_write 19 = .ok (.aload_n 0, 1) := by decide +kernel
theorem dX9_write_20 : decode cX9_write 20 = .ok (.iconst 1, 1) := by decide +kernel
theorem dX9_write_21 : decode cX9_write 21 = .ok (.invokevirtual 161, 3) := by decide +kernel
theorem dX9_write_24 : decode cX9_write 24 = .ok (.ireturn, 1) := by decide +kernel
theorem dX9_write_25 : decode cX9_write 25 = .ok (.aload_n 0, 1) := by decide +kernel
theorem dX9_write_26 : decode cX9_write 26 = .ok (.invokevirtual 211, 3) := by decide +kernel
theorem dX9_write_29 : decode cX9_write 29 = .ok (.iconst 0, 1) := by decide +kernel
theorem dX9_write_30 : decode cX9_write 30 = .ok (.istore_n 2, 1) := by decide +kernel
theorem dX9_write_31 : decode cX9_write 31 = .ok (.iload_n 2, 1) := by decide +kernel
theorem dX9_write_32 : decode cX9_write 32 = .ok (.aload_n 0, 1) := by decide +kernel
theorem dX9_write_33 : decode cX9_write 33 = .ok (.getfield 92, 3) := by decide +kernel
theorem dX9_write_36 : decode cX9_write 36 = .ok (.iload_n 1, 1) := by decide +kernel
theorem dX9_write_37 : decode cX9_write 37 = .ok (.iaload, 1) := by decide +kernel
theorem dX9_write_38 : decode cX9_write 38 = .ok (.if_icmp .ge 29, 3) := by decide +kernel
theorem dX9_write_41 : decode cX9_write 41 = .ok (.iload_n 2, 1) := by decide +kernel
theorem dX9_write_42 : decode cX9_write 42 = .ok (.aload_n 0, 1) := by decide +kernel
theorem dX9_write_43 : decode cX9_write 43 = .ok (.getfield 107, 3) := by decide +kernel
theorem dX9_write_46 : decode cX9_write 46 = .ok (.if_icmp .ge 21, 3) := by decide +kernel
theorem dX9_write_49 : decode cX9_write 49 = .ok (.aload_n 0, 1) := by decide +kernel
theorem dX9_write_50 : decode cX9_write 50 = .ok (.iload_n 1, 1) := by decide +kernel
theorem dX9_write_51 : decode cX9_write 51 = .ok (.iload_n 2, 1) := by decide +kernel
theorem dX9_write_52 : decode cX9_write 52 = .ok (.aload_n 0, 1) := by decide +kernel
theorem dX9_write_53 : decode cX9_write 53 = .ok (.getfield 67, 3) := by decide +kernel
theorem dX9_write_56 : decode cX9_write 56 = .ok (.iload_n 2, 1) := by decide +kernel
theorem dX9_write_57 : decode cX9_write 57 = .ok (.iaload, 1) := by decide +kernel
theorem dX9_write_58 : decode cX9_write 58 = .ok (.invokevirtual 281, 3) := by decide +kernel
theorem dX9_write_61 : decode cX9_write 61 = .ok (.iinc 2 1, 3) := by decide +kernel
theorem dX9_write_64 : decode cX9_write 64 = .ok (.goto (-33), 3) := by decide +kernel
theorem dX9_write_67 : decode cX9_write 67 = .ok (.iload_n 2, 1) := by decide +kernel
theorem dX9_write_68 : decode cX9_write 68 = .ok (.ireturn, 1) := by decide +kernel
theorem dX9_sumOf_0 : decode cX9_sumOf 0 = .ok (.aload_n 0, 1) := by decide +kernel
theorem dX9_sumOf_1 : decode cX9_sumOf 1 = .ok (.invokevirtual 258, 3) := by decide +kernel
theorem dX9_sumOf_4 : decode cX9_sumOf 4 = .ok (.istore_n 2, 1) := by decide +kernel
theorem dX9_sumOf_5 : decode cX9_sumOf 5 = .ok (.iconst 0, 1) := by decide +kernel
theorem dX9_sumOf_6 : decode cX9_sumOf 6 = .ok (.istore_n 3, 1) := by decide +kernel
theorem dX9_sumOf_7 : decode cX9_sumOf 7 = .ok (.iconst 0, 1) := by decide +kernel
theorem dX9_sumOf_8 : decode cX9_sumOf 8 = .ok (.istore 4, 2) := by decide +kernel
theorem dX9_sumOf_10 : decode cX9_sumOf 10 = .ok (.iload 4, 2) := by decide +kernel
theorem dX9_sumOf_12 : decode cX9_sumOf 12 = .ok (.bipush 8, 2) := by decide +kernel
theorem dX9_sumOf_14 : decode cX9_sumOf 14 = .ok (.if_icmp .ge 19, 3) := by decide +kernel
theorem dX9_sumOf_17 : decode cX9_sumOf 17 = .ok (.iload_n 3, 1) := by decide +kernel
theorem dX9_sumOf_18 : decode cX9_sumOf 18 = .ok (.aload_n 0, 1) := by decide +kernel
theorem dX9_sumOf_19 : decode cX9_sumOf 19 = .ok (.getfield 52, 3) := by decide +kernel
theorem dX9_sumOf_22 : decode cX9_sumOf 22 = .ok (.iload 4, 2) := by decide +kernel
theorem dX9_sumOf_24 : decode cX9_sumOf 24 = .ok (.iaload, 1) := by decide +kernel
theorem dX9_sumOf_25 : decode cX9_sumOf 25 = .ok (.iadd, 1) := by decide +kernel
theorem dX9_sumOf_26 : decode cX9_sumOf 26 = .ok (.istore_n 3, 1) := by decide +kernel
theorem dX9_sumOf_27 : decode cX9_sumOf 27 = .ok (.iinc 4 1, 3) := by decide +kernel
theorem dX9_sumOf_30 : decode cX9_sumOf 30 = .ok (.goto (-20), 3) := by decide +kernel
theorem dX9_sumOf_33 : decode cX9_sumOf 33 = .ok (.iload_n 1, 1) := by decide +kernel
theorem dX9_sumOf_34 : decode cX9_sumOf 34 = .ok (.ifCond .ne 10, 3) := by decide +kernel
theorem dX9_sumOf_37 : decode cX9_sumOf 37 = .ok (.aload_n 0, 1) := by decide +kernel
theorem dX9_sumOf_38 : decode cX9_sumOf 38 = .ok (.getfield 107, 3) := by decide +kernel
theorem dX9_sumOf_41 : decode cX9_sumOf 41 = .ok (.goto 30, 3) := by decide +kernel
theorem dX9_sumOf_44 : decode cX9_sumOf 44 = .ok (.iload_n 1, 1) := by decide +kernel
theorem dX9_sumOf_45 : decode cX9_sumOf 45 = .ok (.iconst 3, 1) := by decide +kernel
theorem dX9_sumOf_46 : decode cX9_sumOf 46 = .ok (.if_icmp .ne 10, 3) := by decide +kernel
theorem dX9_sumOf_49 : decode cX9_sumOf 49 = .ok (.aload_n 0, 1) := by decide +kernel
theorem dX9_sumOf_50 : decode cX9_sumOf 50 = .ok (.getfield 123, 3) := by decide +kernel
theorem dX9_sumOf_53 : decode cX9_sumOf 53 = .ok (.goto 18, 3) := by decide +kernel
theorem dX9_sumOf_56 : decode cX9_sumOf 56 = .ok (.iload_n 1, 1) := by decide +kernel
theorem dX9_sumOf_57 : decode cX9_sumOf 57 = .ok (.bipush 6, 2) := by decide +kernel
theorem dX9_sumOf_59 : decode cX9_sumOf 59 = .ok (.if_icmp .ne 11, 3) := by decide +kernel
theorem dX9_sumOf_62 : decode cX9_sumOf 62 = .ok (.aload_n 0, 1) := by decide +kernel
theorem dX9_sumOf_63 : decode cX9_sumOf 63 = .ok (.iload_n 2, 1) := by decide +kernel
theorem dX9_sumOf_64 : decode cX9_sumOf 64 = .ok (.invokevirtual 195, 3) := by decide +kernel
theorem dX9_sumOf_67 : decode cX9_sumOf 67 = .ok (.goto 4, 3) := by decide +kernel
theorem dX9_sumOf_70 : decode cX9_sumOf 70 = .ok (.iload_n 3, 1) := by decide +kernel
theorem dX9_sumOf_71 : decode cX9_sumOf 71 = .ok (.ireturn, 1) := by decide +kernel
theorem dX9_count_0 : decode cX9_count 0 = .ok (.iload_n 1, 1) := by decide +kernel
theorem dX9_count_1 : decode cX9_count 1 = .ok (.tableswitch 81 0 8 #[51, 57, 57, 51, 66, 71, 51, 51, 76], 51) := by decide +kernel
theorem dX9_count_52 : decode cX9_count 52 = .ok (.aload_n 0, 1) := by decide +kernel
theorem dX9_count_53 : decode cX9_count 53 = .ok (.iload_n 1, 1) := by decide +kernel
theorem dX9_count_54 : decode cX9_count 54 = .ok (.invokevirtual 286, 3) := by decide +kernel
theorem dX9_count_57 : decode cX9_count 57 = .ok (.ireturn, 1) := by decide +kernel
theorem dX9_count_58 : decode cX9_count 58 = .ok (.aload_n 0, 1) := by decide +kernel
theorem dX9_count_59 : decode cX9_count 59 = .ok (.getfield 7, 3) := by decide +kernel
theorem dX9_count_62 : decode cX9_count 62 = .ok (.iload_n 1, 1) := by decide +kernel
theorem dX9_count_63 : decode cX9_count 63 = .ok (.iconst 1, 1) := by decide +kernel
theorem dX9_count_64 : decode cX9_count 64 = .ok (.isub, 1) := by decide +kernel
theorem dX9_count_65 : decode cX9_count 65 = .ok (.iaload, 1) := by decide +kernel
theorem dX9_count_66 : decode cX9_count 66 = .ok (.ireturn, 1) := by decide +kernel
theorem dX9_count_67 : decode cX9_count 67 = .ok (.aload_n 0, 1) := by decide +kernel
theorem dX9_count_68 : decode cX9_count 68 = .ok (.getfield 243, 3) := by decide +kernel
theorem dX9_count_71 : decode cX9_count 71 = .ok (.ireturn, 1) := by decide +kernel
theorem dX9_count_72 : decode cX9_count 72 = .ok (.aload_n 0, 1) := by decide +kernel
theorem dX9_count_73 : decode cX9_count 73 = .ok (.getfield 255, 3) := by decide +kernel
theorem dX9_count_76 : decode cX9_count 76 = .ok (.ireturn, 1) := by decide +kernel
theorem dX9_count_77 : decode cX9_count 77 = .ok (.aload_n 0, 1) := by decide +kernel
theorem dX9_count_78 : decode cX9_count 78 = .ok (.getfield 274, 3) := by decide +kernel
theorem dX9_count_81 : decode cX9_count 81 = .ok (.ireturn, 1) := by decide +kernel
theorem dX9_count_82 : decode cX9_count 82 = .ok (.bipush (-2), 2) := by decide +kernel
theorem dX9_count_84 : decode cX9_count 84 = .ok (.ireturn, 1) := by decide +kernel
theorem dX9_digest_0 : decode cX9_digest 0 = .ok (.ldc2_w 289, 3) := by decide +kernel
theorem dX9_digest_3 : decode cX9_digest 3 = .ok (.lstore_n 1, 1) := by decide +kernel
theorem dX9_digest_4 : decode cX9_digest 4 = .ok (.iconst 0, 1) := by decide +kernel
theorem dX9_digest_5 : decode cX9_digest 5 = .ok (.istore_n 3, 1) := by decide +kernel
theorem dX9_digest_6 : decode cX9_digest 6 = .ok (.iload_n 3, 1) := by decide +kernel
theorem dX9_digest_7 : decode cX9_digest 7 = .ok (.bipush 8, 2) := by decide +kernel
theorem dX9_digest_9 : decode cX9_digest 9 = .ok (.if_icmp .ge 22, 3) := by decide +kernel
theorem dX9_digest_12 : decode cX9_digest 12 = .ok (.ldc2_w 291, 3) := by decide +kernel
theorem dX9_digest_15 : decode cX9_digest 15 = .ok (.lload_n 1, 1) := by decide +kernel
theorem dX9_digest_16 : decode cX9_digest 16 = .ok (.lmul, 1) := by decide +kernel
theorem dX9_digest_17 : decode cX9_digest 17 = .ok (.aload_n 0, 1) := by decide +kernel
theorem dX9_digest_18 : decode cX9_digest 18 = .ok (.iload_n 3, 1) := by decide +kernel
theorem dX9_digest_19 : decode cX9_digest 19 = .ok (.invokevirtual 293, 3) := by decide +kernel
theorem dX9_digest_22 : decode cX9_digest 22 = .ok (.i2l, 1) := by decide +kernel
theorem dX9_digest_23 : decode cX9_digest 23 = .ok (.ladd, 1) := by decide +kernel
theorem dX9_digest_24 : decode cX9_digest 24 = .ok (.lstore_n 1, 1) := by decide +kernel
theorem dX9_digest_25 : decode cX9_digest 25 = .ok (.iinc 3 1, 3) := by decide +kernel
theorem dX9_digest_28 : decode cX9_digest 28 = .ok (.goto (-22), 3) := by decide +kernel
theorem dX9_digest_31 : decode cX9_digest 31 = .ok (.ldc2_w 291, 3) := by decide +kernel
theorem dX9_digest_34 : decode cX9_digest 34 = .ok (.lload_n 1, 1) := by decide +kernel
theorem dX9_digest_35 : decode cX9_digest 35 = .ok (.lmul, 1) := by decide +kernel
theorem dX9_digest_36 : decode cX9_digest 36 = .ok (.aload_n 0, 1) := by decide +kernel
theorem dX9_digest_37 : decode cX9_digest 37 = .ok (.iconst 0, 1) := by decide +kernel
theorem dX9_digest_38 : decode cX9_digest 38 = .ok (.invokevirtual 136, 3) := by decide +kernel
theorem dX9_digest_41 : decode cX9_digest 41 = .ok (.i2l, 1) := by decide +kernel
theorem dX9_digest_42 : decode cX9_digest 42 = .ok (.ladd, 1) := by decide +kernel
theorem dX9_digest_43 : decode cX9_digest 43 = .ok (.lstore_n 1, 1) := by decide +kernel
theorem dX9_digest_44 : decode cX9_digest 44 = .ok (.ldc2_w 291, 3) := by decide +kernel
theorem dX9_digest_47 : decode cX9_digest 47 = .ok (.lload_n 1, 1) := by decide +kernel
theorem dX9_digest_48 : decode cX9_digest 48 = .ok (.lmul, 1) := by decide +kernel
theorem dX9_digest_49 : decode cX9_digest 49 = .ok (.aload_n 0, 1) := by decide +kernel
theorem dX9_digest_50 : decode cX9_digest 50 = .ok (.iconst 1, 1) := by decide +kernel
theorem dX9_digest_51 : decode cX9_digest 51 = .ok (.invokevirtual 136, 3) := by decide +kernel
theorem dX9_digest_54 : decode cX9_digest 54 = .ok (.i2l, 1) := by decide +kernel
theorem dX9_digest_55 : decode cX9_digest 55 = .ok (.ladd, 1) := by decide +kernel
theorem dX9_digest_56 : decode cX9_digest 56 = .ok (.lstore_n 1, 1) := by decide +kernel
theorem dX9_digest_57 : decode cX9_digest 57 = .ok (.aload_n 0, 1) := by decide +kernel
theorem dX9_digest_58 : decode cX9_digest 58 = .ok (.invokevirtual 211, 3) := by decide +kernel
theorem dX9_digest_61 : decode cX9_digest 61 = .ok (.iconst 0, 1) := by decide +kernel
theorem dX9_digest_62 : decode cX9_digest 62 = .ok (.istore_n 3, 1) := by decide +kernel
theorem dX9_digest_63 : decode cX9_digest 63 = .ok (.iload_n 3, 1) := by decide +kernel
theorem dX9_digest_64 : decode cX9_digest 64 = .ok (.aload_n 0, 1) := by decide +kernel
theorem dX9_digest_65 : decode cX9_digest 65 = .ok (.getfield 107, 3) := by decide +kernel
theorem dX9_digest_68 : decode cX9_digest 68 = .ok (.if_icmp .ge 137, 3) := by decide +kernel
theorem dX9_digest_71 : decode cX9_digest 71 = .ok (.iconst 0, 1) := by decide +kernel
theorem dX9_digest_72 : decode cX9_digest 72 = .ok (.istore 4, 2) := by decide +kernel
theorem dX9_digest_74 : decode cX9_digest 74 = .ok (.iload 4, 2) := by decide +kernel
theorem dX9_digest_76 : decode cX9_digest 76 = .ok (.iconst 5, 1) := by decide +kernel
theorem dX9_digest_77 : decode cX9_digest 77 = .ok (.if_icmp .ge 24, 3) := by decide +kernel
theorem dX9_digest_80 : decode cX9_digest 80 = .ok (.ldc2_w 291, 3) := by decide +kernel
theorem dX9_digest_83 : decode cX9_digest 83 = .ok (.lload_n 1, 1) := by decide +kernel
theorem dX9_digest_84 : decode cX9_digest 84 = .ok (.lmul, 1) := by decide +kernel
theorem dX9_digest_85 : decode cX9_digest 85 = .ok (.aload_n 0, 1) := by decide +kernel
theorem dX9_digest_86 : decode cX9_digest 86 = .ok (.iload_n 3, 1) := by decide +kernel
theorem dX9_digest_87 : decode cX9_digest 87 = .ok (.iload 4, 2) := by decide +kernel
theorem dX9_digest_89 : decode cX9_digest 89 = .ok (.invokevirtual 146, 3) := by decide +kernel
theorem dX9_digest_92 : decode cX9_digest 92 = .ok (.i2l, 1) := by decide +kernel
theorem dX9_digest_93 : decode cX9_digest 93 = .ok (.ladd, 1) := by decide +kernel
theorem dX9_digest_94 : decode cX9_digest 94 = .ok (.lstore_n 1, 1) := by decide +kernel
theorem dX9_digest_95 : decode cX9_digest 95 = .ok (.iinc 4 1, 3) := by decide +kernel
theorem dX9_digest_98 : decode cX9_digest 98 = .ok (.goto (-24), 3) := by decide +kernel
theorem dX9_digest_101 : decode cX9_digest 101 = .ok (.ldc2_w 291, 3) := by decide +kernel
theorem dX9_digest_104 : decode cX9_digest 104 = .ok (.lload_n 1, 1) := by decide +kernel
theorem dX9_digest_105 : decode cX9_digest 105 = .ok (.lmul, 1) := by decide +kernel
theorem dX9_digest_106 : decode cX9_digest 106 = .ok (.aload_n 0, 1) := by decide +kernel
theorem dX9_digest_107 : decode cX9_digest 107 = .ok (.iload_n 3, 1) := by decide +kernel
theorem dX9_digest_108 : decode cX9_digest 108 = .ok (.invokevirtual 179, 3) := by decide +kernel
theorem dX9_digest_111 : decode cX9_digest 111 = .ok (.i2l, 1) := by decide +kernel
theorem dX9_digest_112 : decode cX9_digest 112 = .ok (.ladd, 1) := by decide +kernel
theorem dX9_digest_113 : decode cX9_digest 113 = .ok (.lstore_n 1, 1) := by decide +kernel
theorem dX9_digest_114 : decode cX9_digest 114 = .ok (.ldc2_w 291, 3) := by decide +kernel
theorem dX9_digest_117 : decode cX9_digest 117 = .ok (.lload_n 1, 1) := by decide +kernel
theorem dX9_digest_118 : decode cX9_digest 118 = .ok (.lmul, 1) := by decide +kernel
theorem dX9_digest_119 : decode cX9_digest 119 = .ok (.aload_n 0, 1) := by decide +kernel
theorem dX9_digest_120 : decode cX9_digest 120 = .ok (.iload_n 3, 1) := by decide +kernel
theorem dX9_digest_121 : decode cX9_digest 121 = .ok (.iconst 2, 1) := by decide +kernel
theorem dX9_digest_122 : decode cX9_digest 122 = .ok (.invokevirtual 185, 3) := by decide +kernel
theorem dX9_digest_125 : decode cX9_digest 125 = .ok (.i2l, 1) := by decide +kernel
theorem dX9_digest_126 : decode cX9_digest 126 = .ok (.ladd, 1) := by decide +kernel
theorem dX9_digest_127 : decode cX9_digest 127 = .ok (.lstore_n 1, 1) := by decide +kernel
theorem dX9_digest_128 : decode cX9_digest 128 = .ok (.ldc2_w 291, 3) := by decide +kernel
theorem dX9_digest_131 : decode cX9_digest 131 = .ok (.lload_n 1, 1) := by decide +kernel
theorem dX9_digest_132 : decode cX9_digest 132 = .ok (.lmul, 1) := by decide +kernel
theorem dX9_digest_133 : decode cX9_digest 133 = .ok (.aload_n 0, 1) := by decide +kernel
theorem dX9_digest_134 : decode cX9_digest 134 = .ok (.iload_n 3, 1) := by decide +kernel
theorem dX9_digest_135 : decode cX9_digest 135 = .ok (.iconst 2, 1) := by decide +kernel
theorem dX9_digest_136 : decode cX9_digest 136 = .ok (.invokevirtual 226, 3) := by decide +kernel
theorem dX9_digest_139 : decode cX9_digest 139 = .ok (.i2l, 1) := by decide +kernel
theorem dX9_digest_140 : decode cX9_digest 140 = .ok (.ladd, 1) := by decide +kernel
theorem dX9_digest_141 : decode cX9_digest 141 = .ok (.lstore_n 1, 1) := by decide +kernel
theorem dX9_digest_142 : decode cX9_digest 142 = .ok (.ldc2_w 291, 3) := by decide +kernel
theorem dX9_digest_145 : decode cX9_digest 145 = .ok (.lload_n 1, 1) := by decide +kernel
theorem dX9_digest_146 : decode cX9_digest 146 = .ok (.lmul, 1) := by decide +kernel
theorem dX9_digest_147 : decode cX9_digest 147 = .ok (.aload_n 0, 1) := by decide +kernel
theorem dX9_digest_148 : decode cX9_digest 148 = .ok (.iload_n 3, 1) := by decide +kernel
theorem dX9_digest_149 : decode cX9_digest 149 = .ok (.iconst 2, 1) := by decide +kernel
theorem dX9_digest_150 : decode cX9_digest 150 = .ok (.iconst 0, 1) := by decide +kernel
theorem dX9_digest_151 : decode cX9_digest 151 = .ok (.invokevirtual 239, 3) := by decide +kernel
theorem dX9_digest_154 : decode cX9_digest 154 = .ok (.ladd, 1) := by decide +kernel
theorem dX9_digest_155 : decode cX9_digest 155 = .ok (.lstore_n 1, 1) := by decide +kernel
theorem dX9_digest_156 : decode cX9_digest 156 = .ok (.ldc2_w 291, 3) := by decide +kernel
theorem dX9_digest_159 : decode cX9_digest 159 = .ok (.lload_n 1, 1) := by decide +kernel
theorem dX9_digest_160 : decode cX9_digest 160 = .ok (.lmul, 1) := by decide +kernel
theorem dX9_digest_161 : decode cX9_digest 161 = .ok (.aload_n 0, 1) := by decide +kernel
theorem dX9_digest_162 : decode cX9_digest 162 = .ok (.iload_n 3, 1) := by decide +kernel
theorem dX9_digest_163 : decode cX9_digest 163 = .ok (.iconst 2, 1) := by decide +kernel
theorem dX9_digest_164 : decode cX9_digest 164 = .ok (.iconst 1, 1) := by decide +kernel
theorem dX9_digest_165 : decode cX9_digest 165 = .ok (.invokevirtual 239, 3) := by decide +kernel
theorem dX9_digest_168 : decode cX9_digest 168 = .ok (.ladd, 1) := by decide +kernel
theorem dX9_digest_169 : decode cX9_digest 169 = .ok (.lstore_n 1, 1) := by decide +kernel
theorem dX9_digest_170 : decode cX9_digest 170 = .ok (.ldc2_w 291, 3) := by decide +kernel
theorem dX9_digest_173 : decode cX9_digest 173 = .ok (.lload_n 1, 1) := by decide +kernel
theorem dX9_digest_174 : decode cX9_digest 174 = .ok (.lmul, 1) := by decide +kernel
theorem dX9_digest_175 : decode cX9_digest 175 = .ok (.aload_n 0, 1) := by decide +kernel
theorem dX9_digest_176 : decode cX9_digest 176 = .ok (.getfield 67, 3) := by decide +kernel
theorem dX9_digest_179 : decode cX9_digest 179 = .ok (.iload_n 3, 1) := by decide +kernel
theorem dX9_digest_180 : decode cX9_digest 180 = .ok (.iaload, 1) := by decide +kernel
theorem dX9_digest_181 : decode cX9_digest 181 = .ok (.i2l, 1) := by decide +kernel
theorem dX9_digest_182 : decode cX9_digest 182 = .ok (.ladd, 1) := by decide +kernel
theorem dX9_digest_183 : decode cX9_digest 183 = .ok (.lstore_n 1, 1) := by decide +kernel
theorem dX9_digest_184 : decode cX9_digest 184 = .ok (.ldc2_w 291, 3) := by decide +kernel
theorem dX9_digest_187 : decode cX9_digest 187 = .ok (.lload_n 1, 1) := by decide +kernel
theorem dX9_digest_188 : decode cX9_digest 188 = .ok (.lmul, 1) := by decide +kernel
theorem dX9_digest_189 : decode cX9_digest 189 = .ok (.aload_n 0, 1) := by decide +kernel
theorem dX9_digest_190 : decode cX9_digest 190 = .ok (.iconst 1, 1) := by decide +kernel
theorem dX9_digest_191 : decode cX9_digest 191 = .ok (.iload_n 3, 1) := by decide +kernel
theorem dX9_digest_192 : decode cX9_digest 192 = .ok (.ishl, 1) := by decide +kernel
theorem dX9_digest_193 : decode cX9_digest 193 = .ok (.invokevirtual 261, 3) := by decide +kernel
theorem dX9_digest_196 : decode cX9_digest 196 = .ok (.i2l, 1) := by decide +kernel
theorem dX9_digest_197 : decode cX9_digest 197 = .ok (.ladd, 1) := by decide +kernel
theorem dX9_digest_198 : decode cX9_digest 198 = .ok (.lstore_n 1, 1) := by decide +kernel
theorem dX9_digest_199 : decode cX9_digest 199 = .ok (.iinc 3 1, 3) := by decide +kernel
theorem dX9_digest_202 : decode cX9_digest 202 = .ok (.goto (-139), 3) := by decide +kernel
theorem dX9_digest_205 : decode cX9_digest 205 = .ok (.iconst 0, 1) := by decide +kernel
theorem dX9_digest_206 : decode cX9_digest 206 = .ok (.istore_n 3, 1) := by decide +kernel
theorem dX9_digest_207 : decode cX9_digest 207 = .ok (.iload_n 3, 1) := by decide +kernel
theorem dX9_digest_208 : decode cX9_digest 208 = .ok (.iconst 4, 1) := by decide +kernel
theorem dX9_digest_209 : decode cX9_digest 209 = .ok (.if_icmp .ge 39, 3) := by decide +kernel
theorem dX9_digest_212 : decode cX9_digest 212 = .ok (.iconst 0, 1) := by decide +kernel
theorem dX9_digest_213 : decode cX9_digest 213 = .ok (.istore 4, 2) := by decide +kernel
theorem dX9_digest_215 : decode cX9_digest 215 = .ok (.iload 4, 2) := by decide +kernel
theorem dX9_digest_217 : decode cX9_digest 217 = .ok (.iconst 3, 1) := by decide +kernel
theorem dX9_digest_218 : decode cX9_digest 218 = .ok (.if_icmp .ge 24, 3) := by decide +kernel
theorem dX9_digest_221 : decode cX9_digest 221 = .ok (.ldc2_w 291, 3) := by decide +kernel
theorem dX9_digest_224 : decode cX9_digest 224 = .ok (.lload_n 1, 1) := by decide +kernel
theorem dX9_digest_225 : decode cX9_digest 225 = .ok (.lmul, 1) := by decide +kernel
theorem dX9_digest_226 : decode cX9_digest 226 = .ok (.aload_n 0, 1) := by decide +kernel
theorem dX9_digest_227 : decode cX9_digest 227 = .ok (.iload_n 3, 1) := by decide +kernel
theorem dX9_digest_228 : decode cX9_digest 228 = .ok (.iload 4, 2) := by decide +kernel
theorem dX9_digest_230 : decode cX9_digest 230 = .ok (.invokevirtual 149, 3) := by decide +kernel
theorem dX9_digest_233 : decode cX9_digest 233 = .ok (.i2l, 1) := by decide +kernel
theorem dX9_digest_234 : decode cX9_digest 234 = .ok (.ladd, 1) := by decide +kernel
theorem dX9_digest_235 : decode cX9_digest 235 = .ok (.lstore_n 1, 1) := by decide +kernel
theorem dX9_digest_236 : decode cX9_digest 236 = .ok (.iinc 4 1, 3) := by decide +kernel
theorem dX9_digest_239 : decode cX9_digest 239 = .ok (.goto (-24), 3) := by decide +kernel
theorem dX9_digest_242 : decode cX9_digest 242 = .ok (.iinc 3 1, 3) := by decide +kernel
theorem dX9_digest_245 : decode cX9_digest 245 = .ok (.goto (-38), 3) := by decide +kernel
theorem dX9_digest_248 : decode cX9_digest 248 = .ok (.ldc2_w 291, 3) := by decide +kernel
theorem dX9_digest_251 : decode cX9_digest 251 = .ok (.lload_n 1, 1) := by decide +kernel
theorem dX9_digest_252 : decode cX9_digest 252 = .ok (.lmul, 1) := by decide +kernel
theorem dX9_digest_253 : decode cX9_digest 253 = .ok (.aload_n 0, 1) := by decide +kernel
theorem dX9_digest_254 : decode cX9_digest 254 = .ok (.getfield 205, 3) := by decide +kernel
theorem dX9_digest_257 : decode cX9_digest 257 = .ok (.i2l, 1) := by decide +kernel
theorem dX9_digest_258 : decode cX9_digest 258 = .ok (.ladd, 1) := by decide +kernel
theorem dX9_digest_259 : decode cX9_digest 259 = .ok (.lstore_n 1, 1) := by decide +kernel
theorem dX9_digest_260 : decode cX9_digest 260 = .ok (.ldc2_w 291, 3) := by decide +kernel
theorem dX9_digest_263 : decode cX9_digest 263 = .ok (.lload_n 1, 1) := by decide +kernel
theorem dX9_digest_264 : decode cX9_digest 264 = .ok (.lmul, 1) := by decide +kernel
theorem dX9_digest_265 : decode cX9_digest 265 = .ok (.aload_n 0, 1) := by decide +kernel
theorem dX9_digest_266 : decode cX9_digest 266 = .ok (.getfield 208, 3) := by decide +kernel
theorem dX9_digest_269 : decode cX9_digest 269 = .ok (.i2l, 1) := by decide +kernel
theorem dX9_digest_270 : decode cX9_digest 270 = .ok (.ladd, 1) := by decide +kernel
theorem dX9_digest_271 : decode cX9_digest 271 = .ok (.lstore_n 1, 1) := by decide +kernel
theorem dX9_digest_272 : decode cX9_digest 272 = .ok (.iconst 0, 1) := by decide +kernel
theorem dX9_digest_273 : decode cX9_digest 273 = .ok (.istore_n 3, 1) := by decide +kernel
theorem dX9_digest_274 : decode cX9_digest 274 = .ok (.iload_n 3, 1) := by decide +kernel
theorem dX9_digest_275 : decode cX9_digest 275 = .ok (.iconst 3, 1) := by decide +kernel
theorem dX9_digest_276 : decode cX9_digest 276 = .ok (.if_icmp .ge 22, 3) := by decide +kernel
theorem dX9_digest_279 : decode cX9_digest 279 = .ok (.ldc2_w 291, 3) := by decide +kernel
theorem dX9_digest_282 : decode cX9_digest 282 = .ok (.lload_n 1, 1) := by decide +kernel
theorem dX9_digest_283 : decode cX9_digest 283 = .ok (.lmul, 1) := by decide +kernel
theorem dX9_digest_284 : decode cX9_digest 284 = .ok (.aload_n 0, 1) := by decide +kernel
theorem dX9_digest_285 : decode cX9_digest 285 = .ok (.iload_n 3, 1) := by decide +kernel
theorem dX9_digest_286 : decode cX9_digest 286 = .ok (.invokevirtual 223, 3) := by decide +kernel
theorem dX9_digest_289 : decode cX9_digest 289 = .ok (.i2l, 1) := by decide +kernel
theorem dX9_digest_290 : decode cX9_digest 290 = .ok (.ladd, 1) := by decide +kernel
theorem dX9_digest_291 : decode cX9_digest 291 = .ok (.lstore_n 1, 1) := by decide +kernel
theorem dX9_digest_292 : decode cX9_digest 292 = .ok (.iinc 3 1, 3) := by decide +kernel
theorem dX9_digest_295 : decode cX9_digest 295 = .ok (.goto (-21), 3) := by decide +kernel
theorem dX9_digest_298 : decode cX9_digest 298 = .ok (.ldc2_w 291, 3) := by decide +kernel
theorem dX9_digest_301 : decode cX9_digest 301 = .ok (.lload_n 1, 1) := by decide +kernel
theorem dX9_digest_302 : decode cX9_digest 302 = .ok (.lmul, 1) := by decide +kernel
theorem dX9_digest_303 : decode cX9_digest 303 = .ok (.aload_n 0, 1) := by decide +kernel
theorem dX9_digest_304 : decode cX9_digest 304 = .ok (.iconst 0, 1) := by decide +kernel
theorem dX9_digest_305 : decode cX9_digest 305 = .ok (.invokevirtual 252, 3) := by decide +kernel
theorem dX9_digest_308 : decode cX9_digest 308 = .ok (.i2l, 1) := by decide +kernel
theorem dX9_digest_309 : decode cX9_digest 309 = .ok (.ladd, 1) := by decide +kernel
theorem dX9_digest_310 : decode cX9_digest 310 = .ok (.lstore_n 1, 1) := by decide +kernel
theorem dX9_digest_311 : decode cX9_digest 311 = .ok (.ldc2_w 291, 3) := by decide +kernel
theorem dX9_digest_314 : decode cX9_digest 314 = .ok (.lload_n 1, 1) := by decide +kernel
theorem dX9_digest_315 : decode cX9_digest 315 = .ok (.lmul, 1) := by decide +kernel
theorem dX9_digest_316 : decode cX9_digest 316 = .ok (.aload_n 0, 1) := by decide +kernel
theorem dX9_digest_317 : decode cX9_digest 317 = .ok (.iconst 1, 1) := by decide +kernel
theorem dX9_digest_318 : decode cX9_digest 318 = .ok (.invokevirtual 252, 3) := by decide +kernel
theorem dX9_digest_321 : decode cX9_digest 321 = .ok (.i2l, 1) := by decide +kernel
theorem dX9_digest_322 : decode cX9_digest 322 = .ok (.ladd, 1) := by decide +kernel
theorem dX9_digest_323 : decode cX9_digest 323 = .ok (.lstore_n 1, 1) := by decide +kernel
theorem dX9_digest_324 : decode cX9_digest 324 = .ok (.ldc2_w 291, 3) := by decide +kernel
theorem dX9_digest_327 : decode cX9_digest 327 = .ok (.lload_n 1, 1) := by decide +kernel
theorem dX9_digest_328 : decode cX9_digest 328 = .ok (.lmul, 1) := by decide +kernel
theorem dX9_digest_329 : decode cX9_digest 329 = .ok (.aload_n 0, 1) := by decide +kernel
theorem dX9_digest_330 : decode cX9_digest 330 = .ok (.invokevirtual 264, 3) := by decide +kernel
theorem dX9_digest_333 : decode cX9_digest 333 = .ok (.i2l, 1) := by decide +kernel
theorem dX9_digest_334 : decode cX9_digest 334 = .ok (.ladd, 1) := by decide +kernel
theorem dX9_digest_335 : decode cX9_digest 335 = .ok (.lstore_n 1, 1) := by decide +kernel
theorem dX9_digest_336 : decode cX9_digest 336 = .ok (.ldc2_w 291, 3) := by decide +kernel
theorem dX9_digest_339 : decode cX9_digest 339 = .ok (.lload_n 1, 1) := by decide +kernel
theorem dX9_digest_340 : decode cX9_digest 340 = .ok (.lmul, 1) := by decide +kernel
theorem dX9_digest_341 : decode cX9_digest 341 = .ok (.aload_n 0, 1) := by decide +kernel
theorem dX9_digest_342 : decode cX9_digest 342 = .ok (.iconst 2, 1) := by decide +kernel
theorem dX9_digest_343 : decode cX9_digest 343 = .ok (.iconst 0, 1) := by decide +kernel
theorem dX9_digest_344 : decode cX9_digest 344 = .ok (.invokevirtual 271, 3) := by decide +kernel
theorem dX9_digest_347 : decode cX9_digest 347 = .ok (.ladd, 1) := by decide +kernel
theorem dX9_digest_348 : decode cX9_digest 348 = .ok (.lstore_n 1, 1) := by decide +kernel
theorem dX9_digest_349 : decode cX9_digest 349 = .ok (.ldc2_w 291, 3) := by decide +kernel
theorem dX9_digest_352 : decode cX9_digest 352 = .ok (.lload_n 1, 1) := by decide +kernel
theorem dX9_digest_353 : decode cX9_digest 353 = .ok (.lmul, 1) := by decide +kernel
theorem dX9_digest_354 : decode cX9_digest 354 = .ok (.aload_n 0, 1) := by decide +kernel
theorem dX9_digest_355 : decode cX9_digest 355 = .ok (.iconst 2, 1) := by decide +kernel
theorem dX9_digest_356 : decode cX9_digest 356 = .ok (.iconst 1, 1) := by decide +kernel
theorem dX9_digest_357 : decode cX9_digest 357 = .ok (.invokevirtual 271, 3) := by decide +kernel
theorem dX9_digest_360 : decode cX9_digest 360 = .ok (.ladd, 1) := by decide +kernel
theorem dX9_digest_361 : decode cX9_digest 361 = .ok (.lreturn, 1) := by decide +kernel
theorem dJ6_bitCount_0f7a4_0 : decode cJ6_bitCount_0f7a4 0 = .ok (.iload_n 0, 1) := by decide +kernel
theorem dJ6_bitCount_0f7a4_1 : decode cJ6_bitCount_0f7a4 1 = .ok (.iload_n 0, 1) := by decide +kernel
theorem dJ6_bitCount_0f7a4_2 : decode cJ6_bitCount_0f7a4 2 = .ok (.iconst 1, 1) := by decide +kernel
theorem dJ6_bitCount_0f7a4_3 : decode cJ6_bitCount_0f7a4 3 = .ok (.iushr, 1) := by decide +kernel
theorem dJ6_bitCount_0f7a4_4 : decode cJ6_bitCount_0f7a4 4 = .ok (.ldc_w 265, 3) := by decide +kernel
theorem dJ6_bitCount_0f7a4_7 : decode cJ6_bitCount_0f7a4 7 = .ok (.iand, 1) := by decide +kernel
theorem dJ6_bitCount_0f7a4_8 : decode cJ6_bitCount_0f7a4 8 = .ok (.isub, 1) := by decide +kernel
theorem dJ6_bitCount_0f7a4_9 : decode cJ6_bitCount_0f7a4 9 = .ok (.istore_n 0, 1) := by decide +kernel
theorem dJ6_bitCount_0f7a4_10 : decode cJ6_bitCount_0f7a4 10 = .ok (.iload_n 0, 1) := by decide +kernel
theorem dJ6_bitCount_0f7a4_11 : decode cJ6_bitCount_0f7a4 11 = .ok (.ldc_w 266, 3) := by decide +kernel
theorem dJ6_bitCount_0f7a4_14 : decode cJ6_bitCount_0f7a4 14 = .ok (.iand, 1) := by decide +kernel
theorem dJ6_bitCount_0f7a4_15 : decode cJ6_bitCount_0f7a4 15 = .ok (.iload_n 0, 1) := by decide +kernel
theorem dJ6_bitCount_0f7a4_16 : decode cJ6_bitCount_0f7a4 16 = .ok (.iconst 2, 1) := by decide +kernel
theorem dJ6_bitCount_0f7a4_17 : decode cJ6_bitCount_0f7a4 17 = .ok (.iushr, 1) := by decide +kernel
theorem dJ6_bitCount_0f7a4_18 : decode cJ6_bitCount_0f7a4 18 = .ok (.ldc_w 266, 3) := by decide +kernel
theorem dJ6_bitCount_0f7a4_21 : decode cJ6_bitCount_0f7a4 21 = .ok (.iand, 1) := by decide +kernel
theorem dJ6_bitCount_0f7a4_22 : decode cJ6_bitCount_0f7a4 22 = .ok (.iadd, 1) := by decide +kernel
theorem dJ6_bitCount_0f7a4_23 : decode cJ6_bitCount_0f7a4 23 = .ok (.istore_n 0, 1) := by decide +kernel
theorem dJ6_bitCount_0f7a4_24 : decode cJ6_bitCount_0f7a4 24 = .ok (.iload_n 0, 1) := by decide +kernel
theorem dJ6_bitCount_0f7a4_25 : decode cJ6_bitCount_0f7a4 25 = .ok (.iload_n 0, 1) := by decide +kernel
theorem dJ6_bitCount_0f7a4_26 : decode cJ6_bitCount_0f7a4 26 = .ok (.iconst 4, 1) := by decide +kernel
theorem dJ6_bitCount_0f7a4_27 : decode cJ6_bitCount_0f7a4 27 = .ok (.iushr, 1) := by decide +kernel
theorem dJ6_bitCount_0f7a4_28 : decode cJ6_bitCount_0f7a4 28 = .ok (.iadd, 1) := by decide +kernel
theorem dJ6_bitCount_0f7a4_29 : decode cJ6_bitCount_0f7a4 29 = .ok (.ldc_w 267, 3) := by decide +kernel
theorem dJ6_bitCount_0f7a4_32 : decode cJ6_bitCount_0f7a4 32 = .ok (.iand, 1) := by decide +kernel
theorem dJ6_bitCount_0f7a4_33 : decode cJ6_bitCount_0f7a4 33 = .ok (.istore_n 0, 1) := by decide +kernel
theorem dJ6_bitCount_0f7a4_34 : decode cJ6_bitCount_0f7a4 34 = .ok (.iload_n 0, 1) := by decide +kernel
theorem dJ6_bitCount_0f7a4_35 : decode cJ6_bitCount_0f7a4 35 = .ok (.iload_n 0, 1) := by decide +kernel
theorem dJ6_bitCount_0f7a4_36 : decode cJ6_bitCount_0f7a4 36 = .ok (.bipush 8, 2) := by decide +kernel
theorem dJ6_bitCount_0f7a4_38 : decode cJ6_bitCount_0f7a4 38 = .ok (.iushr, 1) := by decide +kernel
theorem dJ6_bitCount_0f7a4_39 : decode cJ6_bitCount_0f7a4 39 = .ok (.iadd, 1) := by decide +kernel
theorem dJ6_bitCount_0f7a4_40 : decode cJ6_bitCount_0f7a4 40 = .ok (.istore_n 0, 1) := by decide +kernel
theorem dJ6_bitCount_0f7a4_41 : decode cJ6_bitCount_0f7a4 41 = .ok (.iload_n 0, 1) := by decide +kernel
theorem dJ6_bitCount_0f7a4_42 : decode cJ6_bitCount_0f7a4 42 = .ok (.iload_n 0, 1) := by decide +kernel
theorem dJ6_bitCount_0f7a4_43 : decode cJ6_bitCount_0f7a4 43 = .ok (.bipush 16, 2) := by decide +kernel
theorem dJ6_bitCount_0f7a4_45 : decode cJ6_bitCount_0f7a4 45 = .ok (.iushr, 1) := by decide +kernel
theorem dJ6_bitCount_0f7a4_46 : decode cJ6_bitCount_0f7a4 46 = .ok (.iadd, 1) := by decide +kernel
theorem dJ6_bitCount_0f7a4_47 : decode cJ6_bitCount_0f7a4 47 = .ok (.istore_n 0, 1) := by decide +kernel
theorem dJ6_bitCount_0f7a4_48 : decode cJ6_bitCount_0f7a4 48 = .ok (.iload_n 0, 1) := by decide +kernel
theorem dJ6_bitCount_0f7a4_49 : decode cJ6_bitCount_0f7a4 49 = .ok (.bipush 63, 2) := by decide +kernel
theorem dJ6_bitCount_0f7a4_51 : decode cJ6_bitCount_0f7a4 51 = .ok (.iand, 1) := by decide +kernel
theorem dJ6_bitCount_0f7a4_52 : decode cJ6_bitCount_0f7a4 52 = .ok (.ireturn, 1) := by decide +kernel
theorem dJ9_abs_0f7a4_0 : decode cJ9_abs_0f7a4 0 = .ok (.iload_n 0, 1) := by decide +kernel
theorem dJ9_abs_0f7a4_1 : decode cJ9_abs_0f7a4 1 = .ok (.ifCond .ge 8, 3) := by decide +kernel
theorem dJ9_abs_0f7a4_4 : decode cJ9_abs_0f7a4 4 = .ok (.iload_n 0, 1) := by decide +kernel
theorem dJ9_abs_0f7a4_5 : decode cJ9_abs_0f7a4 5 = .ok (.ineg, 1) := by decide +kernel
theorem dJ9_abs_0f7a4_6 : decode cJ9_abs_0f7a4 6 = .ok (.goto 4, 3) := by decide +kernel
theorem dJ9_abs_0f7a4_9 : decode cJ9_abs_0f7a4 9 = .ok (.iload_n 0, 1) := by decide +kernel
theorem dJ9_abs_0f7a4_10 : decode cJ9_abs_0f7a4 10 = .ok (.ireturn, 1) := by decide +kernel
theorem dJ9_max_7cf53_0 : decode cJ9_max_7cf53 0 = .ok (.iload_n 0, 1) := by decide +kernel
theorem dJ9_max_7cf53_1 : decode cJ9_max_7cf53 1 = .ok (.iload_n 1, 1) := by decide +kernel
theorem dJ9_max_7cf53_2 : decode cJ9_max_7cf53 2 = .ok (.if_icmp .lt 7, 3) := by decide +kernel
theorem dJ9_max_7cf53_5 : decode cJ9_max_7cf53 5 = .ok (.iload_n 0, 1) := by decide +kernel
theorem dJ9_max_7cf53_6 : decode cJ9_max_7cf53 6 = .ok (.goto 4, 3) := by decide +kernel
theorem dJ9_max_7cf53_9 : decode cJ9_max_7cf53 9 = .ok (.iload_n 1, 1) := by decide +kernel
theorem dJ9_max_7cf53_10 : decode cJ9_max_7cf53 10 = .ok (.ireturn, 1) := by decide +kernel
theorem dJ9_min_7cf53_0 : decode cJ9_min_7cf53 0 = .ok (.iload_n 0, 1) := by decide +kernel
theorem dJ9_min_7cf53_1 : decode cJ9_min_7cf53 1 = .ok (.iload_n 1, 1) := by decide +kernel
theorem dJ9_min_7cf53_2 : decode cJ9_min_7cf53 2 = .ok (.if_icmp .gt 7, 3) := by decide +kernel
theorem dJ9_min_7cf53_5 : decode cJ9_min_7cf53 5 = .ok (.iload_n 0, 1) := by decide +kernel
theorem dJ9_min_7cf53_6 : decode cJ9_min_7cf53 6 = .ok (.goto 4, 3) := by decide +kernel
theorem dJ9_min_7cf53_9 : decode cJ9_min_7cf53 9 = .ok (.iload_n 1, 1) := by decide +kernel
theorem dJ9_min_7cf53_10 : decode cJ9_min_7cf53 10 = .ok (.ireturn, 1) := by decide +kernel
theorem dL_law_0 : decode cL_law 0 = .ok (.new 7, 3) := by decide +kernel
theorem dL_law_3 : decode cL_law 3 = .ok (.dup, 1) := by decide +kernel
theorem dL_law_4 : decode cL_law 4 = .ok (.invokespecial 9, 3) := by decide +kernel
theorem dL_law_7 : decode cL_law 7 = .ok (.astore_n 1, 1) := by decide +kernel
theorem dL_law_8 : decode cL_law 8 = .ok (.new 10, 3) := by decide +kernel
theorem dL_law_11 : decode cL_law 11 = .ok (.dup, 1) := by decide +kernel
theorem dL_law_12 : decode cL_law 12 = .ok (.invokespecial 12, 3) := by decide +kernel
theorem dL_law_15 : decode cL_law 15 = .ok (.astore_n 2, 1) := by decide +kernel
theorem dL_law_16 : decode cL_law 16 = .ok (.iconst 0, 1) := by decide +kernel
theorem dL_law_17 : decode cL_law 17 = .ok (.istore_n 3, 1) := by decide +kernel
theorem dL_law_18 : decode cL_law 18 = .ok (.iload_n 3, 1) := by decide +kernel
theorem dL_law_19 : decode cL_law 19 = .ok (.aload_n 0, 1) := by decide +kernel
theorem dL_law_20 : decode cL_law 20 = .ok (.arraylength, 1) := by decide +kernel
theorem dL_law_21 : decode cL_law 21 = .ok (.bipush 6, 2) := by decide +kernel
theorem dL_law_23 : decode cL_law 23 = .ok (.isub, 1) := by decide +kernel
theorem dL_law_24 : decode cL_law 24 = .ok (.if_icmp .gt 1295, 3) := by decide +kernel
theorem dL_law_27 : decode cL_law 27 = .ok (.aload_n 0, 1) := by decide +kernel
theorem dL_law_28 : decode cL_law 28 = .ok (.iload_n 3, 1) := by decide +kernel
theorem dL_law_29 : decode cL_law 29 = .ok (.iaload, 1) := by decide +kernel
theorem dL_law_30 : decode cL_law 30 = .ok (.bipush 63, 2) := by decide +kernel
theorem dL_law_32 : decode cL_law 32 = .ok (.iand, 1) := by decide +kernel
theorem dL_law_33 : decode cL_law 33 = .ok (.tableswitch 1280 0 35 #[159, 192, 215, 238, 271, 304, 347, 380, 413, 436, 469, 492, 525, 558, 581, 604, 637, 670, 693, 726, 770, 813, 846, 869, 902, 925, 948, 961, 995, 1038, 1061, 1114, 1157, 1220, 1243, 1266], 159) := by decide +kernel
theorem dL_law_192 : decode cL_law 192 = .ok (.aload_n 1, 1) := by decide +kernel
theorem dL_law_193 : decode cL_law 193 = .ok (.aload_n 0, 1) := by decide +kernel
theorem dL_law_194 : decode cL_law 194 = .ok (.iload_n 3, 1) := by decide +kernel
theorem dL_law_195 : decode cL_law 195 = .ok (.iconst 1, 1) := by decide +kernel
theorem dL_law_196 : decode cL_law 196 = .ok (.iadd, 1) := by decide +kernel
theorem dL_law_197 : decode cL_law 197 = .ok (.iaload, 1) := by decide +kernel
theorem dL_law_198 : decode cL_law 198 = .ok (.aload_n 0, 1) := by decide +kernel
theorem dL_law_199 : decode cL_law 199 = .ok (.iload_n 3, 1) := by decide +kernel
theorem dL_law_200 : decode cL_law 200 = .ok (.iconst 2, 1) := by decide +kernel
theorem dL_law_201 : decode cL_law 201 = .ok (.iadd, 1) := by decide +kernel
theorem dL_law_202 : decode cL_law 202 = .ok (.iaload, 1) := by decide +kernel
theorem dL_law_203 : decode cL_law 203 = .ok (.invokevirtual 13, 3) := by decide +kernel
theorem dL_law_206 : decode cL_law 206 = .ok (.aload_n 2, 1) := by decide +kernel
theorem dL_law_207 : decode cL_law 207 = .ok (.aload_n 0, 1) := by decide +kernel
theorem dL_law_208 : decode cL_law 208 = .ok (.iload_n 3, 1) := by decide +kernel
theorem dL_law_209 : decode cL_law 209 = .ok (.iconst 1, 1) := by decide +kernel
theorem dL_law_210 : decode cL_law 210 = .ok (.iadd, 1) := by decide +kernel
theorem dL_law_211 : decode cL_law 211 = .ok (.iaload, 1) := by decide +kernel
theorem dL_law_212 : decode cL_law 212 = .ok (.aload_n 0, 1) := by decide +kernel
theorem dL_law_213 : decode cL_law 213 = .ok (.iload_n 3, 1) := by decide +kernel
theorem dL_law_214 : decode cL_law 214 = .ok (.iconst 2, 1) := by decide +kernel
theorem dL_law_215 : decode cL_law 215 = .ok (.iadd, 1) := by decide +kernel
theorem dL_law_216 : decode cL_law 216 = .ok (.iaload, 1) := by decide +kernel
theorem dL_law_217 : decode cL_law 217 = .ok (.invokevirtual 17, 3) := by decide +kernel
theorem dL_law_220 : decode cL_law 220 = .ok (.if_icmp .eq 1093, 3) := by decide +kernel
theorem dL_law_223 : decode cL_law 223 = .ok (.iconst 0, 1) := by decide +kernel
theorem dL_law_224 : decode cL_law 224 = .ok (.ireturn, 1) := by decide +kernel
theorem dL_law_225 : decode cL_law 225 = .ok (.aload_n 1, 1) := by decide +kernel
theorem dL_law_226 : decode cL_law 226 = .ok (.aload_n 0, 1) := by decide +kernel
theorem dL_law_227 : decode cL_law 227 = .ok (.iload_n 3, 1) := by decide +kernel
theorem dL_law_228 : decode cL_law 228 = .ok (.iconst 1, 1) := by decide +kernel
theorem dL_law_229 : decode cL_law 229 = .ok (.iadd, 1) := by decide +kernel
theorem dL_law_230 : decode cL_law 230 = .ok (.iaload, 1) := by decide +kernel
theorem dL_law_231 : decode cL_law 231 = .ok (.invokevirtual 18, 3) := by decide +kernel
theorem dL_law_234 : decode cL_law 234 = .ok (.aload_n 2, 1) := by decide +kernel
theorem dL_law_235 : decode cL_law 235 = .ok (.aload_n 0, 1) := by decide +kernel
theorem dL_law_236 : decode cL_law 236 = .ok (.iload_n 3, 1) := by decide +kernel
theorem dL_law_237 : decode cL_law 237 = .ok (.iconst 1, 1) := by decide +kernel
theorem dL_law_238 : decode cL_law 238 = .ok (.iadd, 1) := by decide +kernel
theorem dL_law_239 : decode cL_law 239 = .ok (.iaload, 1) := by decide +kernel
theorem dL_law_240 : decode cL_law 240 = .ok (.invokevirtual 22, 3) := by decide +kernel
theorem dL_law_243 : decode cL_law 243 = .ok (.if_icmp .eq 1070, 3) := by decide +kernel
theorem dL_law_246 : decode cL_law 246 = .ok (.iconst 0, 1) := by decide +kernel
theorem dL_law_247 : decode cL_law 247 = .ok (.ireturn, 1) := by decide +kernel
theorem dL_law_248 : decode cL_law 248 = .ok (.aload_n 1, 1) := by decide +kernel
theorem dL_law_249 : decode cL_law 249 = .ok (.aload_n 0, 1) := by decide +kernel
theorem dL_law_250 : decode cL_law 250 = .ok (.iload_n 3, 1) := by decide +kernel
theorem dL_law_251 : decode cL_law 251 = .ok (.iconst 1, 1) := by decide +kernel
theorem dL_law_252 : decode cL_law 252 = .ok (.iadd, 1) := by decide +kernel
theorem dL_law_253 : decode cL_law 253 = .ok (.iaload, 1) := by decide +kernel
theorem dL_law_254 : decode cL_law 254 = .ok (.invokevirtual 23, 3) := by decide +kernel
theorem dL_law_257 : decode cL_law 257 = .ok (.aload_n 2, 1) := by decide +kernel
theorem dL_law_258 : decode cL_law 258 = .ok (.aload_n 0, 1) := by decide +kernel
theorem dL_law_259 : decode cL_law 259 = .ok (.iload_n 3, 1) := by decide +kernel
theorem dL_law_260 : decode cL_law 260 = .ok (.iconst 1, 1) := by decide +kernel
theorem dL_law_261 : decode cL_law 261 = .ok (.iadd, 1) := by decide +kernel
theorem dL_law_262 : decode cL_law 262 = .ok (.iaload, 1) := by decide +kernel
theorem dL_law_263 : decode cL_law 263 = .ok (.invokevirtual 26, 3) := by decide +kernel
theorem dL_law_266 : decode cL_law 266 = .ok (.if_icmp .eq 1047, 3) := by decide +kernel
theorem dL_law_269 : decode cL_law 269 = .ok (.iconst 0, 1) := by decide +kernel
theorem dL_law_270 : decode cL_law 270 = .ok (.ireturn, 1) := by decide +kernel
theorem dL_law_271 : decode cL_law 271 = .ok (.aload_n 1, 1) := by decide +kernel
theorem dL_law_272 : decode cL_law 272 = .ok (.aload_n 0, 1) := by decide +kernel
theorem dL_law_273 : decode cL_law 273 = .ok (.iload_n 3, 1) := by decide +kernel
theorem dL_law_274 : decode cL_law 274 = .ok (.iconst 1, 1) := by decide +kernel
theorem dL_law_275 : decode cL_law 275 = .ok (.iadd, 1) := by decide +kernel
theorem dL_law_276 : decode cL_law 276 = .ok (.iaload, 1) := by decide +kernel
theorem dL_law_277 : decode cL_law 277 = .ok (.aload_n 0, 1) := by decide +kernel
theorem dL_law_278 : decode cL_law 278 = .ok (.iload_n 3, 1) := by decide +kernel
theorem dL_law_279 : decode cL_law 279 = .ok (.iconst 2, 1) := by decide +kernel
theorem dL_law_280 : decode cL_law 280 = .ok (.iadd, 1) := by decide +kernel
theorem dL_law_281 : decode cL_law 281 = .ok (.iaload, 1) := by decide +kernel
theorem dL_law_282 : decode cL_law 282 = .ok (.invokevirtual 27, 3) := by decide +kernel
theorem dL_law_285 : decode cL_law 285 = .ok (.aload_n 2, 1) := by decide +kernel
theorem dL_law_286 : decode cL_law 286 = .ok (.aload_n 0, 1) := by decide +kernel
theorem dL_law_287 : decode cL_law 287 = .ok (.iload_n 3, 1) := by decide +kernel
theorem dL_law_288 : decode cL_law 288 = .ok (.iconst 1, 1) := by decide +kernel
theorem dL_law_289 : decode cL_law 289 = .ok (.iadd, 1) := by decide +kernel
theorem dL_law_290 : decode cL_law 290 = .ok (.iaload, 1) := by decide +kernel
theorem dL_law_291 : decode cL_law 291 = .ok (.aload_n 0, 1) := by decide +kernel
theorem dL_law_292 : decode cL_law 292 = .ok (.iload_n 3, 1) := by decide +kernel
theorem dL_law_293 : decode cL_law 293 = .ok (.iconst 2, 1) := by decide +kernel
theorem dL_law_294 : decode cL_law 294 = .ok (.iadd, 1) := by decide +kernel
theorem dL_law_295 : decode cL_law 295 = .ok (.iaload, 1) := by decide +kernel
theorem dL_law_296 : decode cL_law 296 = .ok (.invokevirtual 30, 3) := by decide +kernel
theorem dL_law_299 : decode cL_law 299 = .ok (.if_icmp .eq 1014, 3) := by decide +kernel
theorem dL_law_302 : decode cL_law 302 = .ok (.iconst 0, 1) := by decide +kernel
theorem dL_law_303 : decode cL_law 303 = .ok (.ireturn, 1) := by decide +kernel
theorem dL_law_304 : decode cL_law 304 = .ok (.aload_n 1, 1) := by decide +kernel
theorem dL_law_305 : decode cL_law 305 = .ok (.aload_n 0, 1) := by decide +kernel
theorem dL_law_306 : decode cL_law 306 = .ok (.iload_n 3, 1) := by decide +kernel
theorem dL_law_307 : decode cL_law 307 = .ok (.iconst 1, 1) := by decide +kernel
theorem dL_law_308 : decode cL_law 308 = .ok (.iadd, 1) := by decide +kernel
theorem dL_law_309 : decode cL_law 309 = .ok (.iaload, 1) := by decide +kernel
theorem dL_law_310 : decode cL_law 310 = .ok (.aload_n 0, 1) := by decide +kernel
theorem dL_law_311 : decode cL_law 311 = .ok (.iload_n 3, 1) := by decide +kernel
theorem dL_law_312 : decode cL_law 312 = .ok (.iconst 2, 1) := by decide +kernel
theorem dL_law_313 : decode cL_law 313 = .ok (.iadd, 1) := by decide +kernel
theorem dL_law_314 : decode cL_law 314 = .ok (.iaload, 1) := by decide +kernel
theorem dL_law_315 : decode cL_law 315 = .ok (.invokevirtual 31, 3) := by decide +kernel
theorem dL_law_318 : decode cL_law 318 = .ok (.aload_n 2, 1) := by decide +kernel
theorem dL_law_319 : decode cL_law 319 = .ok (.aload_n 0, 1) := by decide +kernel
theorem dL_law_320 : decode cL_law 320 = .ok (.iload_n 3, 1) := by decide +kernel
theorem dL_law_321 : decode cL_law 321 = .ok (.iconst 1, 1) := by decide +kernel
theorem dL_law_322 : decode cL_law 322 = .ok (.iadd, 1) := by decide +kernel
theorem dL_law_323 : decode cL_law 323 = .ok (.iaload, 1) := by decide +kernel
theorem dL_law_324 : decode cL_law 324 = .ok (.aload_n 0, 1) := by decide +kernel
theorem dL_law_325 : decode cL_law 325 = .ok (.iload_n 3, 1) := by decide +kernel
theorem dL_law_326 : decode cL_law 326 = .ok (.iconst 2, 1) := by decide +kernel
theorem dL_law_327 : decode cL_law 327 = .ok (.iadd, 1) := by decide +kernel
theorem dL_law_328 : decode cL_law 328 = .ok (.iaload, 1) := by decide +kernel
theorem dL_law_329 : decode cL_law 329 = .ok (.invokevirtual 34, 3) := by decide +kernel
theorem dL_law_332 : decode cL_law 332 = .ok (.if_icmp .eq 981, 3) := by decide +kernel
theorem dL_law_335 : decode cL_law 335 = .ok (.iconst 0, 1) := by decide +kernel
theorem dL_law_336 : decode cL_law 336 = .ok (.ireturn, 1) := by decide +kernel
theorem dL_law_337 : decode cL_law 337 = .ok (.aload_n 1, 1) := by decide +kernel
theorem dL_law_338 : decode cL_law 338 = .ok (.aload_n 0, 1) := by decide +kernel
theorem dL_law_339 : decode cL_law 339 = .ok (.iload_n 3, 1) := by decide +kernel
theorem dL_law_340 : decode cL_law 340 = .ok (.iconst 1, 1) := by decide +kernel
theorem dL_law_341 : decode cL_law 341 = .ok (.iadd, 1) := by decide +kernel
theorem dL_law_342 : decode cL_law 342 = .ok (.iaload, 1) := by decide +kernel
theorem dL_law_343 : decode cL_law 343 = .ok (.aload_n 0, 1) := by decide +kernel
theorem dL_law_344 : decode cL_law 344 = .ok (.iload_n 3, 1) := by decide +kernel
theorem dL_law_345 : decode cL_law 345 = .ok (.iconst 2, 1) := by decide +kernel
theorem dL_law_346 : decode cL_law 346 = .ok (.iadd, 1) := by decide +kernel
theorem dL_law_347 : decode cL_law 347 = .ok (.iaload, 1) := by decide +kernel
theorem dL_law_348 : decode cL_law 348 = .ok (.aload_n 0, 1) := by decide +kernel
theorem dL_law_349 : decode cL_law 349 = .ok (.iload_n 3, 1) := by decide +kernel
theorem dL_law_350 : decode cL_law 350 = .ok (.iconst 3, 1) := by decide +kernel
theorem dL_law_351 : decode cL_law 351 = .ok (.iadd, 1) := by decide +kernel
theorem dL_law_352 : decode cL_law 352 = .ok (.iaload, 1) := by decide +kernel
theorem dL_law_353 : decode cL_law 353 = .ok (.invokevirtual 35, 3) := by decide +kernel
theorem dL_law_356 : decode cL_law 356 = .ok (.aload_n 2, 1) := by decide +kernel
theorem dL_law_357 : decode cL_law 357 = .ok (.aload_n 0, 1) := by decide +kernel
theorem dL_law_358 : decode cL_law 358 = .ok (.iload_n 3, 1) := by decide +kernel
theorem dL_law_359 : decode cL_law 359 = .ok (.iconst 1, 1) := by decide +kernel
theorem dL_law_360 : decode cL_law 360 = .ok (.iadd, 1) := by decide +kernel
theorem dL_law_361 : decode cL_law 361 = .ok (.iaload, 1) := by decide +kernel
theorem dL_law_362 : decode cL_law 362 = .ok (.aload_n 0, 1) := by decide +kernel
theorem dL_law_363 : decode cL_law 363 = .ok (.iload_n 3, 1) := by decide +kernel
theorem dL_law_364 : decode cL_law 364 = .ok (.iconst 2, 1) := by decide +kernel
theorem dL_law_365 : decode cL_law 365 = .ok (.iadd, 1) := by decide +kernel
theorem dL_law_366 : decode cL_law 366 = .ok (.iaload, 1) := by decide +kernel
theorem dL_law_367 : decode cL_law 367 = .ok (.aload_n 0, 1) := by decide +kernel
theorem dL_law_368 : decode cL_law 368 = .ok (.iload_n 3, 1) := by decide +kernel
theorem dL_law_369 : decode cL_law 369 = .ok (.iconst 3, 1) := by decide +kernel
theorem dL_law_370 : decode cL_law 370 = .ok (.iadd, 1) := by decide +kernel
theorem dL_law_371 : decode cL_law 371 = .ok (.iaload, 1) := by decide +kernel
theorem dL_law_372 : decode cL_law 372 = .ok (.invokevirtual 39, 3) := by decide +kernel
theorem dL_law_375 : decode cL_law 375 = .ok (.if_icmp .eq 938, 3) := by decide +kernel
theorem dL_law_378 : decode cL_law 378 = .ok (.iconst 0, 1) := by decide +kernel
theorem dL_law_379 : decode cL_law 379 = .ok (.ireturn, 1) := by decide +kernel
theorem dL_law_380 : decode cL_law 380 = .ok (.aload_n 1, 1) := by decide +kernel
theorem dL_law_381 : decode cL_law 381 = .ok (.aload_n 0, 1) := by decide +kernel
theorem dL_law_382 : decode cL_law 382 = .ok (.iload_n 3, 1) := by decide +kernel
theorem dL_law_383 : decode cL_law 383 = .ok (.iconst 1, 1) := by decide +kernel
theorem dL_law_384 : decode cL_law 384 = .ok (.iadd, 1) := by decide +kernel
theorem dL_law_385 : decode cL_law 385 = .ok (.iaload, 1) := by decide +kernel
theorem dL_law_386 : decode cL_law 386 = .ok (.aload_n 0, 1) := by decide +kernel
theorem dL_law_387 : decode cL_law 387 = .ok (.iload_n 3, 1) := by decide +kernel
theorem dL_law_388 : decode cL_law 388 = .ok (.iconst 2, 1) := by decide +kernel
theorem dL_law_389 : decode cL_law 389 = .ok (.iadd, 1) := by decide +kernel
theorem dL_law_390 : decode cL_law 390 = .ok (.iaload, 1) := by decide +kernel
theorem dL_law_391 : decode cL_law 391 = .ok (.invokevirtual 40, 3) := by decide +kernel
theorem dL_law_394 : decode cL_law 394 = .ok (.aload_n 2, 1) := by decide +kernel
theorem dL_law_395 : decode cL_law 395 = .ok (.aload_n 0, 1) := by decide +kernel
theorem dL_law_396 : decode cL_law 396 = .ok (.iload_n 3, 1) := by decide +kernel
theorem dL_law_397 : decode cL_law 397 = .ok (.iconst 1, 1) := by decide +kernel
theorem dL_law_398 : decode cL_law 398 = .ok (.iadd, 1) := by decide +kernel
theorem dL_law_399 : decode cL_law 399 = .ok (.iaload, 1) := by decide +kernel
theorem dL_law_400 : decode cL_law 400 = .ok (.aload_n 0, 1) := by decide +kernel
theorem dL_law_401 : decode cL_law 401 = .ok (.iload_n 3, 1) := by decide +kernel
theorem dL_law_402 : decode cL_law 402 = .ok (.iconst 2, 1) := by decide +kernel
theorem dL_law_403 : decode cL_law 403 = .ok (.iadd, 1) := by decide +kernel
theorem dL_law_404 : decode cL_law 404 = .ok (.iaload, 1) := by decide +kernel
theorem dL_law_405 : decode cL_law 405 = .ok (.invokevirtual 43, 3) := by decide +kernel
theorem dL_law_408 : decode cL_law 408 = .ok (.if_icmp .eq 905, 3) := by decide +kernel
theorem dL_law_411 : decode cL_law 411 = .ok (.iconst 0, 1) := by decide +kernel
theorem dL_law_412 : decode cL_law 412 = .ok (.ireturn, 1) := by decide +kernel
theorem dL_law_413 : decode cL_law 413 = .ok (.aload_n 1, 1) := by decide +kernel
theorem dL_law_414 : decode cL_law 414 = .ok (.aload_n 0, 1) := by decide +kernel
theorem dL_law_415 : decode cL_law 415 = .ok (.iload_n 3, 1) := by decide +kernel
theorem dL_law_416 : decode cL_law 416 = .ok (.iconst 1, 1) := by decide +kernel
theorem dL_law_417 : decode cL_law 417 = .ok (.iadd, 1) := by decide +kernel
theorem dL_law_418 : decode cL_law 418 = .ok (.iaload, 1) := by decide +kernel
theorem dL_law_419 : decode cL_law 419 = .ok (.aload_n 0, 1) := by decide +kernel
theorem dL_law_420 : decode cL_law 420 = .ok (.iload_n 3, 1) := by decide +kernel
theorem dL_law_421 : decode cL_law 421 = .ok (.iconst 2, 1) := by decide +kernel
theorem dL_law_422 : decode cL_law 422 = .ok (.iadd, 1) := by decide +kernel
theorem dL_law_423 : decode cL_law 423 = .ok (.iaload, 1) := by decide +kernel
theorem dL_law_424 : decode cL_law 424 = .ok (.invokevirtual 44, 3) := by decide +kernel
theorem dL_law_427 : decode cL_law 427 = .ok (.aload_n 2, 1) := by decide +kernel
theorem dL_law_428 : decode cL_law 428 = .ok (.aload_n 0, 1) := by decide +kernel
theorem dL_law_429 : decode cL_law 429 = .ok (.iload_n 3, 1) := by decide +kernel
theorem dL_law_430 : decode cL_law 430 = .ok (.iconst 1, 1) := by decide +kernel
theorem dL_law_431 : decode cL_law 431 = .ok (.iadd, 1) := by decide +kernel
theorem dL_law_432 : decode cL_law 432 = .ok (.iaload, 1) := by decide +kernel
theorem dL_law_433 : decode cL_law 433 = .ok (.aload_n 0, 1) := by decide +kernel
theorem dL_law_434 : decode cL_law 434 = .ok (.iload_n 3, 1) := by decide +kernel
theorem dL_law_435 : decode cL_law 435 = .ok (.iconst 2, 1) := by decide +kernel
theorem dL_law_436 : decode cL_law 436 = .ok (.iadd, 1) := by decide +kernel
theorem dL_law_437 : decode cL_law 437 = .ok (.iaload, 1) := by decide +kernel
theorem dL_law_438 : decode cL_law 438 = .ok (.invokevirtual 47, 3) := by decide +kernel
theorem dL_law_441 : decode cL_law 441 = .ok (.if_icmp .eq 872, 3) := by decide +kernel
theorem dL_law_444 : decode cL_law 444 = .ok (.iconst 0, 1) := by decide +kernel
theorem dL_law_445 : decode cL_law 445 = .ok (.ireturn, 1) := by decide +kernel
theorem dL_law_446 : decode cL_law 446 = .ok (.aload_n 1, 1) := by decide +kernel
theorem dL_law_447 : decode cL_law 447 = .ok (.aload_n 0, 1) := by decide +kernel
theorem dL_law_448 : decode cL_law 448 = .ok (.iload_n 3, 1) := by decide +kernel
theorem dL_law_449 : decode cL_law 449 = .ok (.iconst 1, 1) := by decide +kernel
theorem dL_law_450 : decode cL_law 450 = .ok (.iadd, 1) := by decide +kernel
theorem dL_law_451 : decode cL_law 451 = .ok (.iaload, 1) := by decide +kernel
theorem dL_law_452 : decode cL_law 452 = .ok (.invokevirtual 48, 3) := by decide +kernel
theorem dL_law_455 : decode cL_law 455 = .ok (.aload_n 2, 1) := by decide +kernel
theorem dL_law_456 : decode cL_law 456 = .ok (.aload_n 0, 1) := by decide +kernel
theorem dL_law_457 : decode cL_law 457 = .ok (.iload_n 3, 1) := by decide +kernel
theorem dL_law_458 : decode cL_law 458 = .ok (.iconst 1, 1) := by decide +kernel
theorem dL_law_459 : decode cL_law 459 = .ok (.iadd, 1) := by decide +kernel
theorem dL_law_460 : decode cL_law 460 = .ok (.iaload, 1) := by decide +kernel
theorem dL_law_461 : decode cL_law 461 = .ok (.invokevirtual 51, 3) := by decide +kernel
theorem dL_law_464 : decode cL_law 464 = .ok (.if_icmp .eq 849, 3) := by decide +kernel
theorem dL_law_467 : decode cL_law 467 = .ok (.iconst 0, 1) := by decide +kernel
theorem dL_law_468 : decode cL_law 468 = .ok (.ireturn, 1) := by decide +kernel
theorem dL_law_469 : decode cL_law 469 = .ok (.aload_n 1, 1) := by decide +kernel
theorem dL_law_470 : decode cL_law 470 = .ok (.aload_n 0, 1) := by decide +kernel
theorem dL_law_471 : decode cL_law 471 = .ok (.iload_n 3, 1) := by decide +kernel
theorem dL_law_472 : decode cL_law 472 = .ok (.iconst 1, 1) := by decide +kernel
theorem dL_law_473 : decode cL_law 473 = .ok (.iadd, 1) := by decide +kernel
theorem dL_law_474 : decode cL_law 474 = .ok (.iaload, 1) := by decide +kernel
theorem dL_law_475 : decode cL_law 475 = .ok (.aload_n 0, 1) := by decide +kernel
theorem dL_law_476 : decode cL_law 476 = .ok (.iload_n 3, 1) := by decide +kernel
theorem dL_law_477 : decode cL_law 477 = .ok (.iconst 2, 1) := by decide +kernel
theorem dL_law_478 : decode cL_law 478 = .ok (.iadd, 1) := by decide +kernel
theorem dL_law_479 : decode cL_law 479 = .ok (.iaload, 1) := by decide +kernel
theorem dL_law_480 : decode cL_law 480 = .ok (.invokevirtual 52, 3) := by decide +kernel
theorem dL_law_483 : decode cL_law 483 = .ok (.aload_n 2, 1) := by decide +kernel
theorem dL_law_484 : decode cL_law 484 = .ok (.aload_n 0, 1) := by decide +kernel
theorem dL_law_485 : decode cL_law 485 = .ok (.iload_n 3, 1) := by decide +kernel
theorem dL_law_486 : decode cL_law 486 = .ok (.iconst 1, 1) := by decide +kernel
theorem dL_law_487 : decode cL_law 487 = .ok (.iadd, 1) := by decide +kernel
theorem dL_law_488 : decode cL_law 488 = .ok (.iaload, 1) := by decide +kernel
theorem dL_law_489 : decode cL_law 489 = .ok (.aload_n 0, 1) := by decide +kernel
theorem dL_law_490 : decode cL_law 490 = .ok (.iload_n 3, 1) := by decide +kernel
theorem dL_law_491 : decode cL_law 491 = .ok (.iconst 2, 1) := by decide +kernel
theorem dL_law_492 : decode cL_law 492 = .ok (.iadd, 1) := by decide +kernel
theorem dL_law_493 : decode cL_law 493 = .ok (.iaload, 1) := by decide +kernel
theorem dL_law_494 : decode cL_law 494 = .ok (.invokevirtual 55, 3) := by decide +kernel
theorem dL_law_497 : decode cL_law 497 = .ok (.if_icmp .eq 816, 3) := by decide +kernel
theorem dL_law_500 : decode cL_law 500 = .ok (.iconst 0, 1) := by decide +kernel
theorem dL_law_501 : decode cL_law 501 = .ok (.ireturn, 1) := by decide +kernel
theorem dL_law_502 : decode cL_law 502 = .ok (.aload_n 1, 1) := by decide +kernel
theorem dL_law_503 : decode cL_law 503 = .ok (.aload_n 0, 1) := by decide +kernel
theorem dL_law_504 : decode cL_law 504 = .ok (.iload_n 3, 1) := by decide +kernel
theorem dL_law_505 : decode cL_law 505 = .ok (.iconst 1, 1) := by decide +kernel
theorem dL_law_506 : decode cL_law 506 = .ok (.iadd, 1) := by decide +kernel
theorem dL_law_507 : decode cL_law 507 = .ok (.iaload, 1) := by decide +kernel
theorem dL_law_508 : decode cL_law 508 = .ok (.invokevirtual 56, 3) := by decide +kernel
theorem dL_law_511 : decode cL_law 511 = .ok (.aload_n 2, 1) := by decide +kernel
theorem dL_law_512 : decode cL_law 512 = .ok (.aload_n 0, 1) := by decide +kernel
theorem dL_law_513 : decode cL_law 513 = .ok (.iload_n 3, 1) := by decide +kernel
theorem dL_law_514 : decode cL_law 514 = .ok (.iconst 1, 1) := by decide +kernel
theorem dL_law_515 : decode cL_law 515 = .ok (.iadd, 1) := by decide +kernel
theorem dL_law_516 : decode cL_law 516 = .ok (.iaload, 1) := by decide +kernel
theorem dL_law_517 : decode cL_law 517 = .ok (.invokevirtual 59, 3) := by decide +kernel
theorem dL_law_520 : decode cL_law 520 = .ok (.if_icmp .eq 793, 3) := by decide +kernel
theorem dL_law_523 : decode cL_law 523 = .ok (.iconst 0, 1) := by decide +kernel
theorem dL_law_524 : decode cL_law 524 = .ok (.ireturn, 1) := by decide +kernel
theorem dL_law_525 : decode cL_law 525 = .ok (.aload_n 1, 1) := by decide +kernel
theorem dL_law_526 : decode cL_law 526 = .ok (.aload_n 0, 1) := by decide +kernel
theorem dL_law_527 : decode cL_law 527 = .ok (.iload_n 3, 1) := by decide +kernel
theorem dL_law_528 : decode cL_law 528 = .ok (.iconst 1, 1) := by decide +kernel
theorem dL_law_529 : decode cL_law 529 = .ok (.iadd, 1) := by decide +kernel
theorem dL_law_530 : decode cL_law 530 = .ok (.iaload, 1) := by decide +kernel
theorem dL_law_531 : decode cL_law 531 = .ok (.aload_n 0, 1) := by decide +kernel
theorem dL_law_532 : decode cL_law 532 = .ok (.iload_n 3, 1) := by decide +kernel
theorem dL_law_533 : decode cL_law 533 = .ok (.iconst 2, 1) := by decide +kernel
theorem dL_law_534 : decode cL_law 534 = .ok (.iadd, 1) := by decide +kernel
theorem dL_law_535 : decode cL_law 535 = .ok (.iaload, 1) := by decide +kernel
theorem dL_law_536 : decode cL_law 536 = .ok (.invokevirtual 60, 3) := by decide +kernel
theorem dL_law_539 : decode cL_law 539 = .ok (.aload_n 2, 1) := by decide +kernel
theorem dL_law_540 : decode cL_law 540 = .ok (.aload_n 0, 1) := by decide +kernel
theorem dL_law_541 : decode cL_law 541 = .ok (.iload_n 3, 1) := by decide +kernel
theorem dL_law_542 : decode cL_law 542 = .ok (.iconst 1, 1) := by decide +kernel
theorem dL_law_543 : decode cL_law 543 = .ok (.iadd, 1) := by decide +kernel
theorem dL_law_544 : decode cL_law 544 = .ok (.iaload, 1) := by decide +kernel
theorem dL_law_545 : decode cL_law 545 = .ok (.aload_n 0, 1) := by decide +kernel
theorem dL_law_546 : decode cL_law 546 = .ok (.iload_n 3, 1) := by decide +kernel
theorem dL_law_547 : decode cL_law 547 = .ok (.iconst 2, 1) := by decide +kernel
theorem dL_law_548 : decode cL_law 548 = .ok (.iadd, 1) := by decide +kernel
theorem dL_law_549 : decode cL_law 549 = .ok (.iaload, 1) := by decide +kernel
theorem dL_law_550 : decode cL_law 550 = .ok (.invokevirtual 63, 3) := by decide +kernel
theorem dL_law_553 : decode cL_law 553 = .ok (.if_icmp .eq 760, 3) := by decide +kernel
theorem dL_law_556 : decode cL_law 556 = .ok (.iconst 0, 1) := by decide +kernel
theorem dL_law_557 : decode cL_law 557 = .ok (.ireturn, 1) := by decide +kernel
theorem dL_law_558 : decode cL_law 558 = .ok (.aload_n 1, 1) := by decide +kernel
theorem dL_law_559 : decode cL_law 559 = .ok (.aload_n 0, 1) := by decide +kernel
theorem dL_law_560 : decode cL_law 560 = .ok (.iload_n 3, 1) := by decide +kernel
theorem dL_law_561 : decode cL_law 561 = .ok (.iconst 1, 1) := by decide +kernel
theorem dL_law_562 : decode cL_law 562 = .ok (.iadd, 1) := by decide +kernel
theorem dL_law_563 : decode cL_law 563 = .ok (.iaload, 1) := by decide +kernel
theorem dL_law_564 : decode cL_law 564 = .ok (.aload_n 0, 1) := by decide +kernel
theorem dL_law_565 : decode cL_law 565 = .ok (.iload_n 3, 1) := by decide +kernel
theorem dL_law_566 : decode cL_law 566 = .ok (.iconst 2, 1) := by decide +kernel
theorem dL_law_567 : decode cL_law 567 = .ok (.iadd, 1) := by decide +kernel
theorem dL_law_568 : decode cL_law 568 = .ok (.iaload, 1) := by decide +kernel
theorem dL_law_569 : decode cL_law 569 = .ok (.invokevirtual 64, 3) := by decide +kernel
theorem dL_law_572 : decode cL_law 572 = .ok (.aload_n 2, 1) := by decide +kernel
theorem dL_law_573 : decode cL_law 573 = .ok (.aload_n 0, 1) := by decide +kernel
theorem dL_law_574 : decode cL_law 574 = .ok (.iload_n 3, 1) := by decide +kernel
theorem dL_law_575 : decode cL_law 575 = .ok (.iconst 1, 1) := by decide +kernel
theorem dL_law_576 : decode cL_law 576 = .ok (.iadd, 1) := by decide +kernel
theorem dL_law_577 : decode cL_law 577 = .ok (.iaload, 1) := by decide +kernel
theorem dL_law_578 : decode cL_law 578 = .ok (.aload_n 0, 1) := by decide +kernel
theorem dL_law_579 : decode cL_law 579 = .ok (.iload_n 3, 1) := by decide +kernel
theorem dL_law_580 : decode cL_law 580 = .ok (.iconst 2, 1) := by decide +kernel
theorem dL_law_581 : decode cL_law 581 = .ok (.iadd, 1) := by decide +kernel
theorem dL_law_582 : decode cL_law 582 = .ok (.iaload, 1) := by decide +kernel
theorem dL_law_583 : decode cL_law 583 = .ok (.invokevirtual 67, 3) := by decide +kernel
theorem dL_law_586 : decode cL_law 586 = .ok (.if_icmp .eq 727, 3) := by decide +kernel
theorem dL_law_589 : decode cL_law 589 = .ok (.iconst 0, 1) := by decide +kernel
theorem dL_law_590 : decode cL_law 590 = .ok (.ireturn, 1) := by decide +kernel
theorem dL_law_591 : decode cL_law 591 = .ok (.aload_n 1, 1) := by decide +kernel
theorem dL_law_592 : decode cL_law 592 = .ok (.aload_n 0, 1) := by decide +kernel
theorem dL_law_593 : decode cL_law 593 = .ok (.iload_n 3, 1) := by decide +kernel
theorem dL_law_594 : decode cL_law 594 = .ok (.iconst 1, 1) := by decide +kernel
theorem dL_law_595 : decode cL_law 595 = .ok (.iadd, 1) := by decide +kernel
theorem dL_law_596 : decode cL_law 596 = .ok (.iaload, 1) := by decide +kernel
theorem dL_law_597 : decode cL_law 597 = .ok (.invokevirtual 68, 3) := by decide +kernel
theorem dL_law_600 : decode cL_law 600 = .ok (.aload_n 2, 1) := by decide +kernel
theorem dL_law_601 : decode cL_law 601 = .ok (.aload_n 0, 1) := by decide +kernel
theorem dL_law_602 : decode cL_law 602 = .ok (.iload_n 3, 1) := by decide +kernel
theorem dL_law_603 : decode cL_law 603 = .ok (.iconst 1, 1) := by decide +kernel
theorem dL_law_604 : decode cL_law 604 = .ok (.iadd, 1) := by decide +kernel
theorem dL_law_605 : decode cL_law 605 = .ok (.iaload, 1) := by decide +kernel
theorem dL_law_606 : decode cL_law 606 = .ok (.invokevirtual 71, 3) := by decide +kernel
theorem dL_law_609 : decode cL_law 609 = .ok (.if_icmp .eq 704, 3) := by decide +kernel
theorem dL_law_612 : decode cL_law 612 = .ok (.iconst 0, 1) := by decide +kernel
theorem dL_law_613 : decode cL_law 613 = .ok (.ireturn, 1) := by decide +kernel
theorem dL_law_614 : decode cL_law 614 = .ok (.aload_n 1, 1) := by decide +kernel
theorem dL_law_615 : decode cL_law 615 = .ok (.aload_n 0, 1) := by decide +kernel
theorem dL_law_616 : decode cL_law 616 = .ok (.iload_n 3, 1) := by decide +kernel
theorem dL_law_617 : decode cL_law 617 = .ok (.iconst 1, 1) := by decide +kernel
theorem dL_law_618 : decode cL_law 618 = .ok (.iadd, 1) := by decide +kernel
theorem dL_law_619 : decode cL_law 619 = .ok (.iaload, 1) := by decide +kernel
theorem dL_law_620 : decode cL_law 620 = .ok (.invokevirtual 72, 3) := by decide +kernel
theorem dL_law_623 : decode cL_law 623 = .ok (.aload_n 2, 1) := by decide +kernel
theorem dL_law_624 : decode cL_law 624 = .ok (.aload_n 0, 1) := by decide +kernel
theorem dL_law_625 : decode cL_law 625 = .ok (.iload_n 3, 1) := by decide +kernel
theorem dL_law_626 : decode cL_law 626 = .ok (.iconst 1, 1) := by decide +kernel
theorem dL_law_627 : decode cL_law 627 = .ok (.iadd, 1) := by decide +kernel
theorem dL_law_628 : decode cL_law 628 = .ok (.iaload, 1) := by decide +kernel
theorem dL_law_629 : decode cL_law 629 = .ok (.invokevirtual 75, 3) := by decide +kernel
theorem dL_law_632 : decode cL_law 632 = .ok (.if_icmp .eq 681, 3) := by decide +kernel
theorem dL_law_635 : decode cL_law 635 = .ok (.iconst 0, 1) := by decide +kernel
theorem dL_law_636 : decode cL_law 636 = .ok (.ireturn, 1) := by decide +kernel
theorem dL_law_637 : decode cL_law 637 = .ok (.aload_n 1, 1) := by decide +kernel
theorem dL_law_638 : decode cL_law 638 = .ok (.aload_n 0, 1) := by decide +kernel
theorem dL_law_639 : decode cL_law 639 = .ok (.iload_n 3, 1) := by decide +kernel
theorem dL_law_640 : decode cL_law 640 = .ok (.iconst 1, 1) := by decide +kernel
theorem dL_law_641 : decode cL_law 641 = .ok (.iadd, 1) := by decide +kernel
theorem dL_law_642 : decode cL_law 642 = .ok (.iaload, 1) := by decide +kernel
theorem dL_law_643 : decode cL_law 643 = .ok (.aload_n 0, 1) := by decide +kernel
theorem dL_law_644 : decode cL_law 644 = .ok (.iload_n 3, 1) := by decide +kernel
theorem dL_law_645 : decode cL_law 645 = .ok (.iconst 2, 1) := by decide +kernel
theorem dL_law_646 : decode cL_law 646 = .ok (.iadd, 1) := by decide +kernel
theorem dL_law_647 : decode cL_law 647 = .ok (.iaload, 1) := by decide +kernel
theorem dL_law_648 : decode cL_law 648 = .ok (.invokevirtual 76, 3) := by decide +kernel
theorem dL_law_651 : decode cL_law 651 = .ok (.aload_n 2, 1) := by decide +kernel
theorem dL_law_652 : decode cL_law 652 = .ok (.aload_n 0, 1) := by decide +kernel
theorem dL_law_653 : decode cL_law 653 = .ok (.iload_n 3, 1) := by decide +kernel
theorem dL_law_654 : decode cL_law 654 = .ok (.iconst 1, 1) := by decide +kernel
theorem dL_law_655 : decode cL_law 655 = .ok (.iadd, 1) := by decide +kernel
theorem dL_law_656 : decode cL_law 656 = .ok (.iaload, 1) := by decide +kernel
theorem dL_law_657 : decode cL_law 657 = .ok (.aload_n 0, 1) := by decide +kernel
theorem dL_law_658 : decode cL_law 658 = .ok (.iload_n 3, 1) := by decide +kernel
theorem dL_law_659 : decode cL_law 659 = .ok (.iconst 2, 1) := by decide +kernel
theorem dL_law_660 : decode cL_law 660 = .ok (.iadd, 1) := by decide +kernel
theorem dL_law_661 : decode cL_law 661 = .ok (.iaload, 1) := by decide +kernel
theorem dL_law_662 : decode cL_law 662 = .ok (.invokevirtual 79, 3) := by decide +kernel
theorem dL_law_665 : decode cL_law 665 = .ok (.if_icmp .eq 648, 3) := by decide +kernel
theorem dL_law_668 : decode cL_law 668 = .ok (.iconst 0, 1) := by decide +kernel
theorem dL_law_669 : decode cL_law 669 = .ok (.ireturn, 1) := by decide +kernel
theorem dL_law_670 : decode cL_law 670 = .ok (.aload_n 1, 1) := by decide +kernel
theorem dL_law_671 : decode cL_law 671 = .ok (.aload_n 0, 1) := by decide +kernel
theorem dL_law_672 : decode cL_law 672 = .ok (.iload_n 3, 1) := by decide +kernel
theorem dL_law_673 : decode cL_law 673 = .ok (.iconst 1, 1) := by decide +kernel
theorem dL_law_674 : decode cL_law 674 = .ok (.iadd, 1) := by decide +kernel
theorem dL_law_675 : decode cL_law 675 = .ok (.iaload, 1) := by decide +kernel
theorem dL_law_676 : decode cL_law 676 = .ok (.aload_n 0, 1) := by decide +kernel
theorem dL_law_677 : decode cL_law 677 = .ok (.iload_n 3, 1) := by decide +kernel
theorem dL_law_678 : decode cL_law 678 = .ok (.iconst 2, 1) := by decide +kernel
theorem dL_law_679 : decode cL_law 679 = .ok (.iadd, 1) := by decide +kernel
theorem dL_law_680 : decode cL_law 680 = .ok (.iaload, 1) := by decide +kernel
theorem dL_law_681 : decode cL_law 681 = .ok (.invokevirtual 80, 3) := by decide +kernel
theorem dL_law_684 : decode cL_law 684 = .ok (.aload_n 2, 1) := by decide +kernel
theorem dL_law_685 : decode cL_law 685 = .ok (.aload_n 0, 1) := by decide +kernel
theorem dL_law_686 : decode cL_law 686 = .ok (.iload_n 3, 1) := by decide +kernel
theorem dL_law_687 : decode cL_law 687 = .ok (.iconst 1, 1) := by decide +kernel
theorem dL_law_688 : decode cL_law 688 = .ok (.iadd, 1) := by decide +kernel
theorem dL_law_689 : decode cL_law 689 = .ok (.iaload, 1) := by decide +kernel
theorem dL_law_690 : decode cL_law 690 = .ok (.aload_n 0, 1) := by decide +kernel
theorem dL_law_691 : decode cL_law 691 = .ok (.iload_n 3, 1) := by decide +kernel
theorem dL_law_692 : decode cL_law 692 = .ok (.iconst 2, 1) := by decide +kernel
theorem dL_law_693 : decode cL_law 693 = .ok (.iadd, 1) := by decide +kernel
theorem dL_law_694 : decode cL_law 694 = .ok (.iaload, 1) := by decide +kernel
theorem dL_law_695 : decode cL_law 695 = .ok (.invokevirtual 83, 3) := by decide +kernel
theorem dL_law_698 : decode cL_law 698 = .ok (.if_icmp .eq 615, 3) := by decide +kernel
theorem dL_law_701 : decode cL_law 701 = .ok (.iconst 0, 1) := by decide +kernel
theorem dL_law_702 : decode cL_law 702 = .ok (.ireturn, 1) := by decide +kernel
theorem dL_law_703 : decode cL_law 703 = .ok (.aload_n 1, 1) := by decide +kernel
theorem dL_law_704 : decode cL_law 704 = .ok (.aload_n 0, 1) := by decide +kernel
theorem dL_law_705 : decode cL_law 705 = .ok (.iload_n 3, 1) := by decide +kernel
theorem dL_law_706 : decode cL_law 706 = .ok (.iconst 1, 1) := by decide +kernel
theorem dL_law_707 : decode cL_law 707 = .ok (.iadd, 1) := by decide +kernel
theorem dL_law_708 : decode cL_law 708 = .ok (.iaload, 1) := by decide +kernel
theorem dL_law_709 : decode cL_law 709 = .ok (.invokevirtual 84, 3) := by decide +kernel
theorem dL_law_712 : decode cL_law 712 = .ok (.aload_n 2, 1) := by decide +kernel
theorem dL_law_713 : decode cL_law 713 = .ok (.aload_n 0, 1) := by decide +kernel
theorem dL_law_714 : decode cL_law 714 = .ok (.iload_n 3, 1) := by decide +kernel
theorem dL_law_715 : decode cL_law 715 = .ok (.iconst 1, 1) := by decide +kernel
theorem dL_law_716 : decode cL_law 716 = .ok (.iadd, 1) := by decide +kernel
theorem dL_law_717 : decode cL_law 717 = .ok (.iaload, 1) := by decide +kernel
theorem dL_law_718 : decode cL_law 718 = .ok (.invokevirtual 87, 3) := by decide +kernel
theorem dL_law_721 : decode cL_law 721 = .ok (.if_icmp .eq 592, 3) := by decide +kernel
theorem dL_law_724 : decode cL_law 724 = .ok (.iconst 0, 1) := by decide +kernel
theorem dL_law_725 : decode cL_law 725 = .ok (.ireturn, 1) := by decide +kernel
theorem dL_law_726 : decode cL_law 726 = .ok (.aload_n 1, 1) := by decide +kernel
theorem dL_law_727 : decode cL_law 727 = .ok (.aload_n 0, 1) := by decide +kernel
theorem dL_law_728 : decode cL_law 728 = .ok (.iload_n 3, 1) := by decide +kernel
theorem dL_law_729 : decode cL_law 729 = .ok (.iconst 1, 1) := by decide +kernel
theorem dL_law_730 : decode cL_law 730 = .ok (.iadd, 1) := by decide +kernel
theorem dL_law_731 : decode cL_law 731 = .ok (.iaload, 1) := by decide +kernel
theorem dL_law_732 : decode cL_law 732 = .ok (.aload_n 0, 1) := by decide +kernel
theorem dL_law_733 : decode cL_law 733 = .ok (.iload_n 3, 1) := by decide +kernel
theorem dL_law_734 : decode cL_law 734 = .ok (.iconst 2, 1) := by decide +kernel
theorem dL_law_735 : decode cL_law 735 = .ok (.iadd, 1) := by decide +kernel
theorem dL_law_736 : decode cL_law 736 = .ok (.iaload, 1) := by decide +kernel
theorem dL_law_737 : decode cL_law 737 = .ok (.invokevirtual 88, 3) := by decide +kernel
theorem dL_law_740 : decode cL_law 740 = .ok (.aload_n 2, 1) := by decide +kernel
theorem dL_law_741 : decode cL_law 741 = .ok (.aload_n 0, 1) := by decide +kernel
theorem dL_law_742 : decode cL_law 742 = .ok (.iload_n 3, 1) := by decide +kernel
theorem dL_law_743 : decode cL_law 743 = .ok (.iconst 1, 1) := by decide +kernel
theorem dL_law_744 : decode cL_law 744 = .ok (.iadd, 1) := by decide +kernel
theorem dL_law_745 : decode cL_law 745 = .ok (.iaload, 1) := by decide +kernel
theorem dL_law_746 : decode cL_law 746 = .ok (.aload_n 0, 1) := by decide +kernel
theorem dL_law_747 : decode cL_law 747 = .ok (.iload_n 3, 1) := by decide +kernel
theorem dL_law_748 : decode cL_law 748 = .ok (.iconst 2, 1) := by decide +kernel
theorem dL_law_749 : decode cL_law 749 = .ok (.iadd, 1) := by decide +kernel
theorem dL_law_750 : decode cL_law 750 = .ok (.iaload, 1) := by decide +kernel
theorem dL_law_751 : decode cL_law 751 = .ok (.invokevirtual 91, 3) := by decide +kernel
theorem dL_law_754 : decode cL_law 754 = .ok (.if_icmp .eq 559, 3) := by decide +kernel
theorem dL_law_757 : decode cL_law 757 = .ok (.iconst 0, 1) := by decide +kernel
theorem dL_law_758 : decode cL_law 758 = .ok (.ireturn, 1) := by decide +kernel
theorem dL_law_759 : decode cL_law 759 = .ok (.aload_n 1, 1) := by decide +kernel
theorem dL_law_760 : decode cL_law 760 = .ok (.aload_n 0, 1) := by decide +kernel
theorem dL_law_761 : decode cL_law 761 = .ok (.iload_n 3, 1) := by decide +kernel
theorem dL_law_762 : decode cL_law 762 = .ok (.iconst 1, 1) := by decide +kernel
theorem dL_law_763 : decode cL_law 763 = .ok (.iadd, 1) := by decide +kernel
theorem dL_law_764 : decode cL_law 764 = .ok (.iaload, 1) := by decide +kernel
theorem dL_law_765 : decode cL_law 765 = .ok (.aload_n 0, 1) := by decide +kernel
theorem dL_law_766 : decode cL_law 766 = .ok (.iload_n 3, 1) := by decide +kernel
theorem dL_law_767 : decode cL_law 767 = .ok (.iconst 2, 1) := by decide +kernel
theorem dL_law_768 : decode cL_law 768 = .ok (.iadd, 1) := by decide +kernel
theorem dL_law_769 : decode cL_law 769 = .ok (.iaload, 1) := by decide +kernel
theorem dL_law_770 : decode cL_law 770 = .ok (.aload_n 0, 1) := by decide +kernel
theorem dL_law_771 : decode cL_law 771 = .ok (.iload_n 3, 1) := by decide +kernel
theorem dL_law_772 : decode cL_law 772 = .ok (.iconst 3, 1) := by decide +kernel
theorem dL_law_773 : decode cL_law 773 = .ok (.iadd, 1) := by decide +kernel
theorem dL_law_774 : decode cL_law 774 = .ok (.iaload, 1) := by decide +kernel
theorem dL_law_775 : decode cL_law 775 = .ok (.invokevirtual 92, 3) := by decide +kernel
theorem dL_law_778 : decode cL_law 778 = .ok (.aload_n 2, 1) := by decide +kernel
theorem dL_law_779 : decode cL_law 779 = .ok (.aload_n 0, 1) := by decide +kernel
theorem dL_law_780 : decode cL_law 780 = .ok (.iload_n 3, 1) := by decide +kernel
theorem dL_law_781 : decode cL_law 781 = .ok (.iconst 1, 1) := by decide +kernel
theorem dL_law_782 : decode cL_law 782 = .ok (.iadd, 1) := by decide +kernel
theorem dL_law_783 : decode cL_law 783 = .ok (.iaload, 1) := by decide +kernel
theorem dL_law_784 : decode cL_law 784 = .ok (.aload_n 0, 1) := by decide +kernel
theorem dL_law_785 : decode cL_law 785 = .ok (.iload_n 3, 1) := by decide +kernel
theorem dL_law_786 : decode cL_law 786 = .ok (.iconst 2, 1) := by decide +kernel
theorem dL_law_787 : decode cL_law 787 = .ok (.iadd, 1) := by decide +kernel
theorem dL_law_788 : decode cL_law 788 = .ok (.iaload, 1) := by decide +kernel
theorem dL_law_789 : decode cL_law 789 = .ok (.aload_n 0, 1) := by decide +kernel
theorem dL_law_790 : decode cL_law 790 = .ok (.iload_n 3, 1) := by decide +kernel
theorem dL_law_791 : decode cL_law 791 = .ok (.iconst 3, 1) := by decide +kernel
theorem dL_law_792 : decode cL_law 792 = .ok (.iadd, 1) := by decide +kernel
theorem dL_law_793 : decode cL_law 793 = .ok (.iaload, 1) := by decide +kernel
theorem dL_law_794 : decode cL_law 794 = .ok (.invokevirtual 96, 3) := by decide +kernel
theorem dL_law_797 : decode cL_law 797 = .ok (.lcmp, 1) := by decide +kernel
theorem dL_law_798 : decode cL_law 798 = .ok (.ifCond .eq 515, 3) := by decide +kernel
theorem dL_law_801 : decode cL_law 801 = .ok (.iconst 0, 1) := by decide +kernel
theorem dL_law_802 : decode cL_law 802 = .ok (.ireturn, 1) := by decide +kernel
theorem dL_law_803 : decode cL_law 803 = .ok (.aload_n 1, 1) := by decide +kernel
theorem dL_law_804 : decode cL_law 804 = .ok (.aload_n 0, 1) := by decide +kernel
theorem dL_law_805 : decode cL_law 805 = .ok (.iload_n 3, 1) := by decide +kernel
theorem dL_law_806 : decode cL_law 806 = .ok (.iconst 1, 1) := by decide +kernel
theorem dL_law_807 : decode cL_law 807 = .ok (.iadd, 1) := by decide +kernel
theorem dL_law_808 : decode cL_law 808 = .ok (.iaload, 1) := by decide +kernel
theorem dL_law_809 : decode cL_law 809 = .ok (.aload_n 0, 1) := by decide +kernel
theorem dL_law_810 : decode cL_law 810 = .ok (.iload_n 3, 1) := by decide +kernel
theorem dL_law_811 : decode cL_law 811 = .ok (.iconst 2, 1) := by decide +kernel
theorem dL_law_812 : decode cL_law 812 = .ok (.iadd, 1) := by decide +kernel
theorem dL_law_813 : decode cL_law 813 = .ok (.iaload, 1) := by decide +kernel
theorem dL_law_814 : decode cL_law 814 = .ok (.aload_n 0, 1) := by decide +kernel
theorem dL_law_815 : decode cL_law 815 = .ok (.iload_n 3, 1) := by decide +kernel
theorem dL_law_816 : decode cL_law 816 = .ok (.iconst 3, 1) := by decide +kernel
theorem dL_law_817 : decode cL_law 817 = .ok (.iadd, 1) := by decide +kernel
theorem dL_law_818 : decode cL_law 818 = .ok (.iaload, 1) := by decide +kernel
theorem dL_law_819 : decode cL_law 819 = .ok (.invokevirtual 97, 3) := by decide +kernel
theorem dL_law_822 : decode cL_law 822 = .ok (.aload_n 2, 1) := by decide +kernel
theorem dL_law_823 : decode cL_law 823 = .ok (.aload_n 0, 1) := by decide +kernel
theorem dL_law_824 : decode cL_law 824 = .ok (.iload_n 3, 1) := by decide +kernel
theorem dL_law_825 : decode cL_law 825 = .ok (.iconst 1, 1) := by decide +kernel
theorem dL_law_826 : decode cL_law 826 = .ok (.iadd, 1) := by decide +kernel
theorem dL_law_827 : decode cL_law 827 = .ok (.iaload, 1) := by decide +kernel
theorem dL_law_828 : decode cL_law 828 = .ok (.aload_n 0, 1) := by decide +kernel
theorem dL_law_829 : decode cL_law 829 = .ok (.iload_n 3, 1) := by decide +kernel
theorem dL_law_830 : decode cL_law 830 = .ok (.iconst 2, 1) := by decide +kernel
theorem dL_law_831 : decode cL_law 831 = .ok (.iadd, 1) := by decide +kernel
theorem dL_law_832 : decode cL_law 832 = .ok (.iaload, 1) := by decide +kernel
theorem dL_law_833 : decode cL_law 833 = .ok (.aload_n 0, 1) := by decide +kernel
theorem dL_law_834 : decode cL_law 834 = .ok (.iload_n 3, 1) := by decide +kernel
theorem dL_law_835 : decode cL_law 835 = .ok (.iconst 3, 1) := by decide +kernel
theorem dL_law_836 : decode cL_law 836 = .ok (.iadd, 1) := by decide +kernel
theorem dL_law_837 : decode cL_law 837 = .ok (.iaload, 1) := by decide +kernel
theorem dL_law_838 : decode cL_law 838 = .ok (.invokevirtual 100, 3) := by decide +kernel
theorem dL_law_841 : decode cL_law 841 = .ok (.if_icmp .eq 472, 3) := by decide +kernel
theorem dL_law_844 : decode cL_law 844 = .ok (.iconst 0, 1) := by decide +kernel
theorem dL_law_845 : decode cL_law 845 = .ok (.ireturn, 1) := by decide +kernel
theorem dL_law_846 : decode cL_law 846 = .ok (.aload_n 1, 1) := by decide +kernel
theorem dL_law_847 : decode cL_law 847 = .ok (.aload_n 0, 1) := by decide +kernel
theorem dL_law_848 : decode cL_law 848 = .ok (.iload_n 3, 1) := by decide +kernel
theorem dL_law_849 : decode cL_law 849 = .ok (.iconst 1, 1) := by decide +kernel
theorem dL_law_850 : decode cL_law 850 = .ok (.iadd, 1) := by decide +kernel
theorem dL_law_851 : decode cL_law 851 = .ok (.iaload, 1) := by decide +kernel
theorem dL_law_852 : decode cL_law 852 = .ok (.aload_n 0, 1) := by decide +kernel
theorem dL_law_853 : decode cL_law 853 = .ok (.iload_n 3, 1) := by decide +kernel
theorem dL_law_854 : decode cL_law 854 = .ok (.iconst 2, 1) := by decide +kernel
theorem dL_law_855 : decode cL_law 855 = .ok (.iadd, 1) := by decide +kernel
theorem dL_law_856 : decode cL_law 856 = .ok (.iaload, 1) := by decide +kernel
theorem dL_law_857 : decode cL_law 857 = .ok (.invokevirtual 101, 3) := by decide +kernel
theorem dL_law_860 : decode cL_law 860 = .ok (.aload_n 2, 1) := by decide +kernel
theorem dL_law_861 : decode cL_law 861 = .ok (.aload_n 0, 1) := by decide +kernel
theorem dL_law_862 : decode cL_law 862 = .ok (.iload_n 3, 1) := by decide +kernel
theorem dL_law_863 : decode cL_law 863 = .ok (.iconst 1, 1) := by decide +kernel
theorem dL_law_864 : decode cL_law 864 = .ok (.iadd, 1) := by decide +kernel
theorem dL_law_865 : decode cL_law 865 = .ok (.iaload, 1) := by decide +kernel
theorem dL_law_866 : decode cL_law 866 = .ok (.aload_n 0, 1) := by decide +kernel
theorem dL_law_867 : decode cL_law 867 = .ok (.iload_n 3, 1) := by decide +kernel
theorem dL_law_868 : decode cL_law 868 = .ok (.iconst 2, 1) := by decide +kernel
theorem dL_law_869 : decode cL_law 869 = .ok (.iadd, 1) := by decide +kernel
theorem dL_law_870 : decode cL_law 870 = .ok (.iaload, 1) := by decide +kernel
theorem dL_law_871 : decode cL_law 871 = .ok (.invokevirtual 104, 3) := by decide +kernel
theorem dL_law_874 : decode cL_law 874 = .ok (.if_icmp .eq 439, 3) := by decide +kernel
theorem dL_law_877 : decode cL_law 877 = .ok (.iconst 0, 1) := by decide +kernel
theorem dL_law_878 : decode cL_law 878 = .ok (.ireturn, 1) := by decide +kernel
theorem dL_law_879 : decode cL_law 879 = .ok (.aload_n 1, 1) := by decide +kernel
theorem dL_law_880 : decode cL_law 880 = .ok (.aload_n 0, 1) := by decide +kernel
theorem dL_law_881 : decode cL_law 881 = .ok (.iload_n 3, 1) := by decide +kernel
theorem dL_law_882 : decode cL_law 882 = .ok (.iconst 1, 1) := by decide +kernel
theorem dL_law_883 : decode cL_law 883 = .ok (.iadd, 1) := by decide +kernel
theorem dL_law_884 : decode cL_law 884 = .ok (.iaload, 1) := by decide +kernel
theorem dL_law_885 : decode cL_law 885 = .ok (.invokevirtual 105, 3) := by decide +kernel
theorem dL_law_888 : decode cL_law 888 = .ok (.aload_n 2, 1) := by decide +kernel
theorem dL_law_889 : decode cL_law 889 = .ok (.aload_n 0, 1) := by decide +kernel
theorem dL_law_890 : decode cL_law 890 = .ok (.iload_n 3, 1) := by decide +kernel
theorem dL_law_891 : decode cL_law 891 = .ok (.iconst 1, 1) := by decide +kernel
theorem dL_law_892 : decode cL_law 892 = .ok (.iadd, 1) := by decide +kernel
theorem dL_law_893 : decode cL_law 893 = .ok (.iaload, 1) := by decide +kernel
theorem dL_law_894 : decode cL_law 894 = .ok (.invokevirtual 108, 3) := by decide +kernel
theorem dL_law_897 : decode cL_law 897 = .ok (.if_icmp .eq 416, 3) := by decide +kernel
theorem dL_law_900 : decode cL_law 900 = .ok (.iconst 0, 1) := by decide +kernel
theorem dL_law_901 : decode cL_law 901 = .ok (.ireturn, 1) := by decide +kernel
theorem dL_law_902 : decode cL_law 902 = .ok (.aload_n 1, 1) := by decide +kernel
theorem dL_law_903 : decode cL_law 903 = .ok (.aload_n 0, 1) := by decide +kernel
theorem dL_law_904 : decode cL_law 904 = .ok (.iload_n 3, 1) := by decide +kernel
theorem dL_law_905 : decode cL_law 905 = .ok (.iconst 1, 1) := by decide +kernel
theorem dL_law_906 : decode cL_law 906 = .ok (.iadd, 1) := by decide +kernel
theorem dL_law_907 : decode cL_law 907 = .ok (.iaload, 1) := by decide +kernel
theorem dL_law_908 : decode cL_law 908 = .ok (.aload_n 0, 1) := by decide +kernel
theorem dL_law_909 : decode cL_law 909 = .ok (.iload_n 3, 1) := by decide +kernel
theorem dL_law_910 : decode cL_law 910 = .ok (.iconst 2, 1) := by decide +kernel
theorem dL_law_911 : decode cL_law 911 = .ok (.iadd, 1) := by decide +kernel
theorem dL_law_912 : decode cL_law 912 = .ok (.iaload, 1) := by decide +kernel
theorem dL_law_913 : decode cL_law 913 = .ok (.invokevirtual 109, 3) := by decide +kernel
theorem dL_law_916 : decode cL_law 916 = .ok (.aload_n 2, 1) := by decide +kernel
theorem dL_law_917 : decode cL_law 917 = .ok (.aload_n 0, 1) := by decide +kernel
theorem dL_law_918 : decode cL_law 918 = .ok (.iload_n 3, 1) := by decide +kernel
theorem dL_law_919 : decode cL_law 919 = .ok (.iconst 1, 1) := by decide +kernel
theorem dL_law_920 : decode cL_law 920 = .ok (.iadd, 1) := by decide +kernel
theorem dL_law_921 : decode cL_law 921 = .ok (.iaload, 1) := by decide +kernel
theorem dL_law_922 : decode cL_law 922 = .ok (.aload_n 0, 1) := by decide +kernel
theorem dL_law_923 : decode cL_law 923 = .ok (.iload_n 3, 1) := by decide +kernel
theorem dL_law_924 : decode cL_law 924 = .ok (.iconst 2, 1) := by decide +kernel
theorem dL_law_925 : decode cL_law 925 = .ok (.iadd, 1) := by decide +kernel
theorem dL_law_926 : decode cL_law 926 = .ok (.iaload, 1) := by decide +kernel
theorem dL_law_927 : decode cL_law 927 = .ok (.invokevirtual 112, 3) := by decide +kernel
theorem dL_law_930 : decode cL_law 930 = .ok (.if_icmp .eq 383, 3) := by decide +kernel
theorem dL_law_933 : decode cL_law 933 = .ok (.iconst 0, 1) := by decide +kernel
theorem dL_law_934 : decode cL_law 934 = .ok (.ireturn, 1) := by decide +kernel
theorem dL_law_935 : decode cL_law 935 = .ok (.aload_n 1, 1) := by decide +kernel
theorem dL_law_936 : decode cL_law 936 = .ok (.aload_n 0, 1) := by decide +kernel
theorem dL_law_937 : decode cL_law 937 = .ok (.iload_n 3, 1) := by decide +kernel
theorem dL_law_938 : decode cL_law 938 = .ok (.iconst 1, 1) := by decide +kernel
theorem dL_law_939 : decode cL_law 939 = .ok (.iadd, 1) := by decide +kernel
theorem dL_law_940 : decode cL_law 940 = .ok (.iaload, 1) := by decide +kernel
theorem dL_law_941 : decode cL_law 941 = .ok (.invokevirtual 113, 3) := by decide +kernel
theorem dL_law_944 : decode cL_law 944 = .ok (.aload_n 2, 1) := by decide +kernel
theorem dL_law_945 : decode cL_law 945 = .ok (.aload_n 0, 1) := by decide +kernel
theorem dL_law_946 : decode cL_law 946 = .ok (.iload_n 3, 1) := by decide +kernel
theorem dL_law_947 : decode cL_law 947 = .ok (.iconst 1, 1) := by decide +kernel
theorem dL_law_948 : decode cL_law 948 = .ok (.iadd, 1) := by decide +kernel
theorem dL_law_949 : decode cL_law 949 = .ok (.iaload, 1) := by decide +kernel
theorem dL_law_950 : decode cL_law 950 = .ok (.invokevirtual 116, 3) := by decide +kernel
theorem dL_law_953 : decode cL_law 953 = .ok (.if_icmp .eq 360, 3) := by decide +kernel
theorem dL_law_956 : decode cL_law 956 = .ok (.iconst 0, 1) := by decide +kernel
theorem dL_law_957 : decode cL_law 957 = .ok (.ireturn, 1) := by decide +kernel
theorem dL_law_958 : decode cL_law 958 = .ok (.aload_n 1, 1) := by decide +kernel
theorem dL_law_959 : decode cL_law 959 = .ok (.aload_n 0, 1) := by decide +kernel
theorem dL_law_960 : decode cL_law 960 = .ok (.iload_n 3, 1) := by decide +kernel
theorem dL_law_961 : decode cL_law 961 = .ok (.iconst 1, 1) := by decide +kernel
theorem dL_law_962 : decode cL_law 962 = .ok (.iadd, 1) := by decide +kernel
theorem dL_law_963 : decode cL_law 963 = .ok (.iaload, 1) := by decide +kernel
theorem dL_law_964 : decode cL_law 964 = .ok (.invokevirtual 117, 3) := by decide +kernel
theorem dL_law_967 : decode cL_law 967 = .ok (.aload_n 2, 1) := by decide +kernel
theorem dL_law_968 : decode cL_law 968 = .ok (.aload_n 0, 1) := by decide +kernel
theorem dL_law_969 : decode cL_law 969 = .ok (.iload_n 3, 1) := by decide +kernel
theorem dL_law_970 : decode cL_law 970 = .ok (.iconst 1, 1) := by decide +kernel
theorem dL_law_971 : decode cL_law 971 = .ok (.iadd, 1) := by decide +kernel
theorem dL_law_972 : decode cL_law 972 = .ok (.iaload, 1) := by decide +kernel
theorem dL_law_973 : decode cL_law 973 = .ok (.invokevirtual 120, 3) := by decide +kernel
theorem dL_law_976 : decode cL_law 976 = .ok (.if_icmp .eq 337, 3) := by decide +kernel
theorem dL_law_979 : decode cL_law 979 = .ok (.iconst 0, 1) := by decide +kernel
theorem dL_law_980 : decode cL_law 980 = .ok (.ireturn, 1) := by decide +kernel
theorem dL_law_981 : decode cL_law 981 = .ok (.aload_n 1, 1) := by decide +kernel
theorem dL_law_982 : decode cL_law 982 = .ok (.invokevirtual 121, 3) := by decide +kernel
theorem dL_law_985 : decode cL_law 985 = .ok (.aload_n 2, 1) := by decide +kernel
theorem dL_law_986 : decode cL_law 986 = .ok (.invokevirtual 125, 3) := by decide +kernel
theorem dL_law_989 : decode cL_law 989 = .ok (.if_icmp .eq 324, 3) := by decide +kernel
theorem dL_law_992 : decode cL_law 992 = .ok (.iconst 0, 1) := by decide +kernel
theorem dL_law_993 : decode cL_law 993 = .ok (.ireturn, 1) := by decide +kernel
theorem dL_law_994 : decode cL_law 994 = .ok (.aload_n 1, 1) := by decide +kernel
theorem dL_law_995 : decode cL_law 995 = .ok (.aload_n 0, 1) := by decide +kernel
theorem dL_law_996 : decode cL_law 996 = .ok (.iload_n 3, 1) := by decide +kernel
theorem dL_law_997 : decode cL_law 997 = .ok (.iconst 1, 1) := by decide +kernel
theorem dL_law_998 : decode cL_law 998 = .ok (.iadd, 1) := by decide +kernel
theorem dL_law_999 : decode cL_law 999 = .ok (.iaload, 1) := by decide +kernel
theorem dL_law_1000 : decode cL_law 1000 = .ok (.aload_n 0, 1) := by decide +kernel
theorem dL_law_1001 : decode cL_law 1001 = .ok (.iload_n 3, 1) := by decide +kernel
theorem dL_law_1002 : decode cL_law 1002 = .ok (.iconst 2, 1) := by decide +kernel
theorem dL_law_1003 : decode cL_law 1003 = .ok (.iadd, 1) := by decide +kernel
theorem dL_law_1004 : decode cL_law 1004 = .ok (.iaload, 1) := by decide +kernel
theorem dL_law_1005 : decode cL_law 1005 = .ok (.invokevirtual 126, 3) := by decide +kernel
theorem dL_law_1008 : decode cL_law 1008 = .ok (.aload_n 2, 1) := by decide +kernel
theorem dL_law_1009 : decode cL_law 1009 = .ok (.aload_n 0, 1) := by decide +kernel
theorem dL_law_1010 : decode cL_law 1010 = .ok (.iload_n 3, 1) := by decide +kernel
theorem dL_law_1011 : decode cL_law 1011 = .ok (.iconst 1, 1) := by decide +kernel
theorem dL_law_1012 : decode cL_law 1012 = .ok (.iadd, 1) := by decide +kernel
theorem dL_law_1013 : decode cL_law 1013 = .ok (.iaload, 1) := by decide +kernel
theorem dL_law_1014 : decode cL_law 1014 = .ok (.aload_n 0, 1) := by decide +kernel
theorem dL_law_1015 : decode cL_law 1015 = .ok (.iload_n 3, 1) := by decide +kernel
theorem dL_law_1016 : decode cL_law 1016 = .ok (.iconst 2, 1) := by decide +kernel
theorem dL_law_1017 : decode cL_law 1017 = .ok (.iadd, 1) := by decide +kernel
theorem dL_law_1018 : decode cL_law 1018 = .ok (.iaload, 1) := by decide +kernel
theorem dL_law_1019 : decode cL_law 1019 = .ok (.invokevirtual 130, 3) := by decide +kernel
theorem dL_law_1022 : decode cL_law 1022 = .ok (.lcmp, 1) := by decide +kernel
theorem dL_law_1023 : decode cL_law 1023 = .ok (.ifCond .eq 290, 3) := by decide +kernel
theorem dL_law_1026 : decode cL_law 1026 = .ok (.iconst 0, 1) := by decide +kernel
theorem dL_law_1027 : decode cL_law 1027 = .ok (.ireturn, 1) := by decide +kernel
theorem dL_law_1028 : decode cL_law 1028 = .ok (.aload_n 1, 1) := by decide +kernel
theorem dL_law_1029 : decode cL_law 1029 = .ok (.aload_n 0, 1) := by decide +kernel
theorem dL_law_1030 : decode cL_law 1030 = .ok (.iload_n 3, 1) := by decide +kernel
theorem dL_law_1031 : decode cL_law 1031 = .ok (.iconst 1, 1) := by decide +kernel
theorem dL_law_1032 : decode cL_law 1032 = .ok (.iadd, 1) := by decide +kernel
theorem dL_law_1033 : decode cL_law 1033 = .ok (.iaload, 1) := by decide +kernel
theorem dL_law_1034 : decode cL_law 1034 = .ok (.aload_n 0, 1) := by decide +kernel
theorem dL_law_1035 : decode cL_law 1035 = .ok (.iload_n 3, 1) := by decide +kernel
theorem dL_law_1036 : decode cL_law 1036 = .ok (.iconst 2, 1) := by decide +kernel
theorem dL_law_1037 : decode cL_law 1037 = .ok (.iadd, 1) := by decide +kernel
theorem dL_law_1038 : decode cL_law 1038 = .ok (.iaload, 1) := by decide +kernel
theorem dL_law_1039 : decode cL_law 1039 = .ok (.aload_n 0, 1) := by decide +kernel
theorem dL_law_1040 : decode cL_law 1040 = .ok (.iload_n 3, 1) := by decide +kernel
theorem dL_law_1041 : decode cL_law 1041 = .ok (.iconst 3, 1) := by decide +kernel
theorem dL_law_1042 : decode cL_law 1042 = .ok (.iadd, 1) := by decide +kernel
theorem dL_law_1043 : decode cL_law 1043 = .ok (.iaload, 1) := by decide +kernel
theorem dL_law_1044 : decode cL_law 1044 = .ok (.invokevirtual 131, 3) := by decide +kernel
theorem dL_law_1047 : decode cL_law 1047 = .ok (.aload_n 2, 1) := by decide +kernel
theorem dL_law_1048 : decode cL_law 1048 = .ok (.aload_n 0, 1) := by decide +kernel
theorem dL_law_1049 : decode cL_law 1049 = .ok (.iload_n 3, 1) := by decide +kernel
theorem dL_law_1050 : decode cL_law 1050 = .ok (.iconst 1, 1) := by decide +kernel
theorem dL_law_1051 : decode cL_law 1051 = .ok (.iadd, 1) := by decide +kernel
theorem dL_law_1052 : decode cL_law 1052 = .ok (.iaload, 1) := by decide +kernel
theorem dL_law_1053 : decode cL_law 1053 = .ok (.aload_n 0, 1) := by decide +kernel
theorem dL_law_1054 : decode cL_law 1054 = .ok (.iload_n 3, 1) := by decide +kernel
theorem dL_law_1055 : decode cL_law 1055 = .ok (.iconst 2, 1) := by decide +kernel
theorem dL_law_1056 : decode cL_law 1056 = .ok (.iadd, 1) := by decide +kernel
theorem dL_law_1057 : decode cL_law 1057 = .ok (.iaload, 1) := by decide +kernel
theorem dL_law_1058 : decode cL_law 1058 = .ok (.aload_n 0, 1) := by decide +kernel
theorem dL_law_1059 : decode cL_law 1059 = .ok (.iload_n 3, 1) := by decide +kernel
theorem dL_law_1060 : decode cL_law 1060 = .ok (.iconst 3, 1) := by decide +kernel
theorem dL_law_1061 : decode cL_law 1061 = .ok (.iadd, 1) := by decide +kernel
theorem dL_law_1062 : decode cL_law 1062 = .ok (.iaload, 1) := by decide +kernel
theorem dL_law_1063 : decode cL_law 1063 = .ok (.invokevirtual 134, 3) := by decide +kernel
theorem dL_law_1066 : decode cL_law 1066 = .ok (.if_icmp .eq 247, 3) := by decide +kernel
theorem dL_law_1069 : decode cL_law 1069 = .ok (.iconst 0, 1) := by decide +kernel
theorem dL_law_1070 : decode cL_law 1070 = .ok (.ireturn, 1) := by decide +kernel
theorem dL_law_1071 : decode cL_law 1071 = .ok (.aload_n 1, 1) := by decide +kernel
theorem dL_law_1072 : decode cL_law 1072 = .ok (.aload_n 0, 1) := by decide +kernel
theorem dL_law_1073 : decode cL_law 1073 = .ok (.iload_n 3, 1) := by decide +kernel
theorem dL_law_1074 : decode cL_law 1074 = .ok (.iconst 1, 1) := by decide +kernel
theorem dL_law_1075 : decode cL_law 1075 = .ok (.iadd, 1) := by decide +kernel
theorem dL_law_1076 : decode cL_law 1076 = .ok (.iaload, 1) := by decide +kernel
theorem dL_law_1077 : decode cL_law 1077 = .ok (.invokevirtual 135, 3) := by decide +kernel
theorem dL_law_1080 : decode cL_law 1080 = .ok (.aload_n 2, 1) := by decide +kernel
theorem dL_law_1081 : decode cL_law 1081 = .ok (.aload_n 0, 1) := by decide +kernel
theorem dL_law_1082 : decode cL_law 1082 = .ok (.iload_n 3, 1) := by decide +kernel
theorem dL_law_1083 : decode cL_law 1083 = .ok (.iconst 1, 1) := by decide +kernel
theorem dL_law_1084 : decode cL_law 1084 = .ok (.iadd, 1) := by decide +kernel
theorem dL_law_1085 : decode cL_law 1085 = .ok (.iaload, 1) := by decide +kernel
theorem dL_law_1086 : decode cL_law 1086 = .ok (.invokevirtual 138, 3) := by decide +kernel
theorem dL_law_1089 : decode cL_law 1089 = .ok (.if_icmp .eq 224, 3) := by decide +kernel
theorem dL_law_1092 : decode cL_law 1092 = .ok (.iconst 0, 1) := by decide +kernel
theorem dL_law_1093 : decode cL_law 1093 = .ok (.ireturn, 1) := by decide +kernel
theorem dL_law_1094 : decode cL_law 1094 = .ok (.aload_n 1, 1) := by decide +kernel
theorem dL_law_1095 : decode cL_law 1095 = .ok (.aload_n 0, 1) := by decide +kernel
theorem dL_law_1096 : decode cL_law 1096 = .ok (.iload_n 3, 1) := by decide +kernel
theorem dL_law_1097 : decode cL_law 1097 = .ok (.iconst 1, 1) := by decide +kernel
theorem dL_law_1098 : decode cL_law 1098 = .ok (.iadd, 1) := by decide +kernel
theorem dL_law_1099 : decode cL_law 1099 = .ok (.iaload, 1) := by decide +kernel
theorem dL_law_1100 : decode cL_law 1100 = .ok (.aload_n 0, 1) := by decide +kernel
theorem dL_law_1101 : decode cL_law 1101 = .ok (.iload_n 3, 1) := by decide +kernel
theorem dL_law_1102 : decode cL_law 1102 = .ok (.iconst 2, 1) := by decide +kernel
theorem dL_law_1103 : decode cL_law 1103 = .ok (.iadd, 1) := by decide +kernel
theorem dL_law_1104 : decode cL_law 1104 = .ok (.iaload, 1) := by decide +kernel
theorem dL_law_1105 : decode cL_law 1105 = .ok (.aload_n 0, 1) := by decide +kernel
theorem dL_law_1106 : decode cL_law 1106 = .ok (.iload_n 3, 1) := by decide +kernel
theorem dL_law_1107 : decode cL_law 1107 = .ok (.iconst 3, 1) := by decide +kernel
theorem dL_law_1108 : decode cL_law 1108 = .ok (.iadd, 1) := by decide +kernel
theorem dL_law_1109 : decode cL_law 1109 = .ok (.iaload, 1) := by decide +kernel
theorem dL_law_1110 : decode cL_law 1110 = .ok (.aload_n 0, 1) := by decide +kernel
theorem dL_law_1111 : decode cL_law 1111 = .ok (.iload_n 3, 1) := by decide +kernel
theorem dL_law_1112 : decode cL_law 1112 = .ok (.iconst 4, 1) := by decide +kernel
theorem dL_law_1113 : decode cL_law 1113 = .ok (.iadd, 1) := by decide +kernel
theorem dL_law_1114 : decode cL_law 1114 = .ok (.iaload, 1) := by decide +kernel
theorem dL_law_1115 : decode cL_law 1115 = .ok (.invokevirtual 139, 3) := by decide +kernel
theorem dL_law_1118 : decode cL_law 1118 = .ok (.aload_n 2, 1) := by decide +kernel
theorem dL_law_1119 : decode cL_law 1119 = .ok (.aload_n 0, 1) := by decide +kernel
theorem dL_law_1120 : decode cL_law 1120 = .ok (.iload_n 3, 1) := by decide +kernel
theorem dL_law_1121 : decode cL_law 1121 = .ok (.iconst 1, 1) := by decide +kernel
theorem dL_law_1122 : decode cL_law 1122 = .ok (.iadd, 1) := by decide +kernel
theorem dL_law_1123 : decode cL_law 1123 = .ok (.iaload, 1) := by decide +kernel
theorem dL_law_1124 : decode cL_law 1124 = .ok (.aload_n 0, 1) := by decide +kernel
theorem dL_law_1125 : decode cL_law 1125 = .ok (.iload_n 3, 1) := by decide +kernel
theorem dL_law_1126 : decode cL_law 1126 = .ok (.iconst 2, 1) := by decide +kernel
theorem dL_law_1127 : decode cL_law 1127 = .ok (.iadd, 1) := by decide +kernel
theorem dL_law_1128 : decode cL_law 1128 = .ok (.iaload, 1) := by decide +kernel
theorem dL_law_1129 : decode cL_law 1129 = .ok (.aload_n 0, 1) := by decide +kernel
theorem dL_law_1130 : decode cL_law 1130 = .ok (.iload_n 3, 1) := by decide +kernel
theorem dL_law_1131 : decode cL_law 1131 = .ok (.iconst 3, 1) := by decide +kernel
theorem dL_law_1132 : decode cL_law 1132 = .ok (.iadd, 1) := by decide +kernel
theorem dL_law_1133 : decode cL_law 1133 = .ok (.iaload, 1) := by decide +kernel
theorem dL_law_1134 : decode cL_law 1134 = .ok (.aload_n 0, 1) := by decide +kernel
theorem dL_law_1135 : decode cL_law 1135 = .ok (.iload_n 3, 1) := by decide +kernel
theorem dL_law_1136 : decode cL_law 1136 = .ok (.iconst 4, 1) := by decide +kernel
theorem dL_law_1137 : decode cL_law 1137 = .ok (.iadd, 1) := by decide +kernel
theorem dL_law_1138 : decode cL_law 1138 = .ok (.iaload, 1) := by decide +kernel
theorem dL_law_1139 : decode cL_law 1139 = .ok (.invokevirtual 143, 3) := by decide +kernel
theorem dL_law_1142 : decode cL_law 1142 = .ok (.if_icmp .eq 171, 3) := by decide +kernel
theorem dL_law_1145 : decode cL_law 1145 = .ok (.iconst 0, 1) := by decide +kernel
theorem dL_law_1146 : decode cL_law 1146 = .ok (.ireturn, 1) := by decide +kernel
theorem dL_law_1147 : decode cL_law 1147 = .ok (.aload_n 1, 1) := by decide +kernel
theorem dL_law_1148 : decode cL_law 1148 = .ok (.aload_n 0, 1) := by decide +kernel
theorem dL_law_1149 : decode cL_law 1149 = .ok (.iload_n 3, 1) := by decide +kernel
theorem dL_law_1150 : decode cL_law 1150 = .ok (.iconst 1, 1) := by decide +kernel
theorem dL_law_1151 : decode cL_law 1151 = .ok (.iadd, 1) := by decide +kernel
theorem dL_law_1152 : decode cL_law 1152 = .ok (.iaload, 1) := by decide +kernel
theorem dL_law_1153 : decode cL_law 1153 = .ok (.aload_n 0, 1) := by decide +kernel
theorem dL_law_1154 : decode cL_law 1154 = .ok (.iload_n 3, 1) := by decide +kernel
theorem dL_law_1155 : decode cL_law 1155 = .ok (.iconst 2, 1) := by decide +kernel
theorem dL_law_1156 : decode cL_law 1156 = .ok (.iadd, 1) := by decide +kernel
theorem dL_law_1157 : decode cL_law 1157 = .ok (.iaload, 1) := by decide +kernel
theorem dL_law_1158 : decode cL_law 1158 = .ok (.aload_n 0, 1) := by decide +kernel
theorem dL_law_1159 : decode cL_law 1159 = .ok (.iload_n 3, 1) := by decide +kernel
theorem dL_law_1160 : decode cL_law 1160 = .ok (.iconst 3, 1) := by decide +kernel
theorem dL_law_1161 : decode cL_law 1161 = .ok (.iadd, 1) := by decide +kernel
theorem dL_law_1162 : decode cL_law 1162 = .ok (.iaload, 1) := by decide +kernel
theorem dL_law_1163 : decode cL_law 1163 = .ok (.invokevirtual 144, 3) := by decide +kernel
theorem dL_law_1166 : decode cL_law 1166 = .ok (.aload_n 2, 1) := by decide +kernel
theorem dL_law_1167 : decode cL_law 1167 = .ok (.aload_n 0, 1) := by decide +kernel
theorem dL_law_1168 : decode cL_law 1168 = .ok (.iload_n 3, 1) := by decide +kernel
theorem dL_law_1169 : decode cL_law 1169 = .ok (.iconst 1, 1) := by decide +kernel
theorem dL_law_1170 : decode cL_law 1170 = .ok (.iadd, 1) := by decide +kernel
theorem dL_law_1171 : decode cL_law 1171 = .ok (.iaload, 1) := by decide +kernel
theorem dL_law_1172 : decode cL_law 1172 = .ok (.aload_n 0, 1) := by decide +kernel
theorem dL_law_1173 : decode cL_law 1173 = .ok (.iload_n 3, 1) := by decide +kernel
theorem dL_law_1174 : decode cL_law 1174 = .ok (.iconst 2, 1) := by decide +kernel
theorem dL_law_1175 : decode cL_law 1175 = .ok (.iadd, 1) := by decide +kernel
theorem dL_law_1176 : decode cL_law 1176 = .ok (.iaload, 1) := by decide +kernel
theorem dL_law_1177 : decode cL_law 1177 = .ok (.aload_n 0, 1) := by decide +kernel
theorem dL_law_1178 : decode cL_law 1178 = .ok (.iload_n 3, 1) := by decide +kernel
theorem dL_law_1179 : decode cL_law 1179 = .ok (.iconst 3, 1) := by decide +kernel
theorem dL_law_1180 : decode cL_law 1180 = .ok (.iadd, 1) := by decide +kernel
theorem dL_law_1181 : decode cL_law 1181 = .ok (.iaload, 1) := by decide +kernel
theorem dL_law_1182 : decode cL_law 1182 = .ok (.invokevirtual 147, 3) := by decide +kernel
theorem dL_law_1185 : decode cL_law 1185 = .ok (.if_icmp .eq 128, 3) := by decide +kernel
theorem dL_law_1188 : decode cL_law 1188 = .ok (.iconst 0, 1) := by decide +kernel
theorem dL_law_1189 : decode cL_law 1189 = .ok (.ireturn, 1) := by decide +kernel
theorem dL_law_1190 : decode cL_law 1190 = .ok (.aload_n 1, 1) := by decide +kernel
theorem dL_law_1191 : decode cL_law 1191 = .ok (.aload_n 0, 1) := by decide +kernel
theorem dL_law_1192 : decode cL_law 1192 = .ok (.iload_n 3, 1) := by decide +kernel
theorem dL_law_1193 : decode cL_law 1193 = .ok (.iconst 1, 1) := by decide +kernel
theorem dL_law_1194 : decode cL_law 1194 = .ok (.iadd, 1) := by decide +kernel
theorem dL_law_1195 : decode cL_law 1195 = .ok (.iaload, 1) := by decide +kernel
theorem dL_law_1196 : decode cL_law 1196 = .ok (.aload_n 0, 1) := by decide +kernel
theorem dL_law_1197 : decode cL_law 1197 = .ok (.iload_n 3, 1) := by decide +kernel
theorem dL_law_1198 : decode cL_law 1198 = .ok (.iconst 2, 1) := by decide +kernel
theorem dL_law_1199 : decode cL_law 1199 = .ok (.iadd, 1) := by decide +kernel
theorem dL_law_1200 : decode cL_law 1200 = .ok (.iaload, 1) := by decide +kernel
theorem dL_law_1201 : decode cL_law 1201 = .ok (.aload_n 0, 1) := by decide +kernel
theorem dL_law_1202 : decode cL_law 1202 = .ok (.iload_n 3, 1) := by decide +kernel
theorem dL_law_1203 : decode cL_law 1203 = .ok (.iconst 3, 1) := by decide +kernel
theorem dL_law_1204 : decode cL_law 1204 = .ok (.iadd, 1) := by decide +kernel
theorem dL_law_1205 : decode cL_law 1205 = .ok (.iaload, 1) := by decide +kernel
theorem dL_law_1206 : decode cL_law 1206 = .ok (.aload_n 0, 1) := by decide +kernel
theorem dL_law_1207 : decode cL_law 1207 = .ok (.iload_n 3, 1) := by decide +kernel
theorem dL_law_1208 : decode cL_law 1208 = .ok (.iconst 4, 1) := by decide +kernel
theorem dL_law_1209 : decode cL_law 1209 = .ok (.iadd, 1) := by decide +kernel
theorem dL_law_1210 : decode cL_law 1210 = .ok (.iaload, 1) := by decide +kernel
theorem dL_law_1211 : decode cL_law 1211 = .ok (.aload_n 0, 1) := by decide +kernel
theorem dL_law_1212 : decode cL_law 1212 = .ok (.iload_n 3, 1) := by decide +kernel
theorem dL_law_1213 : decode cL_law 1213 = .ok (.iconst 5, 1) := by decide +kernel
theorem dL_law_1214 : decode cL_law 1214 = .ok (.iadd, 1) := by decide +kernel
theorem dL_law_1215 : decode cL_law 1215 = .ok (.iaload, 1) := by decide +kernel
theorem dL_law_1216 : decode cL_law 1216 = .ok (.invokevirtual 148, 3) := by decide +kernel
theorem dL_law_1219 : decode cL_law 1219 = .ok (.aload_n 2, 1) := by decide +kernel
theorem dL_law_1220 : decode cL_law 1220 = .ok (.aload_n 0, 1) := by decide +kernel
theorem dL_law_1221 : decode cL_law 1221 = .ok (.iload_n 3, 1) := by decide +kernel
theorem dL_law_1222 : decode cL_law 1222 = .ok (.iconst 1, 1) := by decide +kernel
theorem dL_law_1223 : decode cL_law 1223 = .ok (.iadd, 1) := by decide +kernel
theorem dL_law_1224 : decode cL_law 1224 = .ok (.iaload, 1) := by decide +kernel
theorem dL_law_1225 : decode cL_law 1225 = .ok (.aload_n 0, 1) := by decide +kernel
theorem dL_law_1226 : decode cL_law 1226 = .ok (.iload_n 3, 1) := by decide +kernel
theorem dL_law_1227 : decode cL_law 1227 = .ok (.iconst 2, 1) := by decide +kernel
theorem dL_law_1228 : decode cL_law 1228 = .ok (.iadd, 1) := by decide +kernel
theorem dL_law_1229 : decode cL_law 1229 = .ok (.iaload, 1) := by decide +kernel
theorem dL_law_1230 : decode cL_law 1230 = .ok (.aload_n 0, 1) := by decide +kernel
theorem dL_law_1231 : decode cL_law 1231 = .ok (.iload_n 3, 1) := by decide +kernel
theorem dL_law_1232 : decode cL_law 1232 = .ok (.iconst 3, 1) := by decide +kernel
theorem dL_law_1233 : decode cL_law 1233 = .ok (.iadd, 1) := by decide +kernel
theorem dL_law_1234 : decode cL_law 1234 = .ok (.iaload, 1) := by decide +kernel
theorem dL_law_1235 : decode cL_law 1235 = .ok (.aload_n 0, 1) := by decide +kernel
theorem dL_law_1236 : decode cL_law 1236 = .ok (.iload_n 3, 1) := by decide +kernel
theorem dL_law_1237 : decode cL_law 1237 = .ok (.iconst 4, 1) := by decide +kernel
theorem dL_law_1238 : decode cL_law 1238 = .ok (.iadd, 1) := by decide +kernel
theorem dL_law_1239 : decode cL_law 1239 = .ok (.iaload, 1) := by decide +kernel
theorem dL_law_1240 : decode cL_law 1240 = .ok (.aload_n 0, 1) := by decide +kernel
theorem dL_law_1241 : decode cL_law 1241 = .ok (.iload_n 3, 1) := by decide +kernel
theorem dL_law_1242 : decode cL_law 1242 = .ok (.iconst 5, 1) := by decide +kernel
theorem dL_law_1243 : decode cL_law 1243 = .ok (.iadd, 1) := by decide +kernel
theorem dL_law_1244 : decode cL_law 1244 = .ok (.iaload, 1) := by decide +kernel
theorem dL_law_1245 : decode cL_law 1245 = .ok (.invokevirtual 152, 3) := by decide +kernel
theorem dL_law_1248 : decode cL_law 1248 = .ok (.if_icmp .eq 65, 3) := by decide +kernel
theorem dL_law_1251 : decode cL_law 1251 = .ok (.iconst 0, 1) := by decide +kernel
theorem dL_law_1252 : decode cL_law 1252 = .ok (.ireturn, 1) := by decide +kernel
theorem dL_law_1253 : decode cL_law 1253 = .ok (.aload_n 1, 1) := by decide +kernel
theorem dL_law_1254 : decode cL_law 1254 = .ok (.aload_n 0, 1) := by decide +kernel
theorem dL_law_1255 : decode cL_law 1255 = .ok (.iload_n 3, 1) := by decide +kernel
theorem dL_law_1256 : decode cL_law 1256 = .ok (.iconst 1, 1) := by decide +kernel
theorem dL_law_1257 : decode cL_law 1257 = .ok (.iadd, 1) := by decide +kernel
theorem dL_law_1258 : decode cL_law 1258 = .ok (.iaload, 1) := by decide +kernel
theorem dL_law_1259 : decode cL_law 1259 = .ok (.invokevirtual 153, 3) := by decide +kernel
theorem dL_law_1262 : decode cL_law 1262 = .ok (.aload_n 2, 1) := by decide +kernel
theorem dL_law_1263 : decode cL_law 1263 = .ok (.aload_n 0, 1) := by decide +kernel
theorem dL_law_1264 : decode cL_law 1264 = .ok (.iload_n 3, 1) := by decide +kernel
theorem dL_law_1265 : decode cL_law 1265 = .ok (.iconst 1, 1) := by decide +kernel
theorem dL_law_1266 : decode cL_law 1266 = .ok (.iadd, 1) := by decide +kernel
theorem dL_law_1267 : decode cL_law 1267 = .ok (.iaload, 1) := by decide +kernel
theorem dL_law_1268 : decode cL_law 1268 = .ok (.invokevirtual 156, 3) := by decide +kernel
theorem dL_law_1271 : decode cL_law 1271 = .ok (.if_icmp .eq 42, 3) := by decide +kernel
theorem dL_law_1274 : decode cL_law 1274 = .ok (.iconst 0, 1) := by decide +kernel
theorem dL_law_1275 : decode cL_law 1275 = .ok (.ireturn, 1) := by decide +kernel
theorem dL_law_1276 : decode cL_law 1276 = .ok (.aload_n 1, 1) := by decide +kernel
theorem dL_law_1277 : decode cL_law 1277 = .ok (.aload_n 0, 1) := by decide +kernel
theorem dL_law_1278 : decode cL_law 1278 = .ok (.iload_n 3, 1) := by decide +kernel
theorem dL_law_1279 : decode cL_law 1279 = .ok (.iconst 1, 1) := by decide +kernel
theorem dL_law_1280 : decode cL_law 1280 = .ok (.iadd, 1) := by decide +kernel
theorem dL_law_1281 : decode cL_law 1281 = .ok (.iaload, 1) := by decide +kernel
theorem dL_law_1282 : decode cL_law 1282 = .ok (.invokevirtual 157, 3) := by decide +kernel
theorem dL_law_1285 : decode cL_law 1285 = .ok (.aload_n 2, 1) := by decide +kernel
theorem dL_law_1286 : decode cL_law 1286 = .ok (.aload_n 0, 1) := by decide +kernel
theorem dL_law_1287 : decode cL_law 1287 = .ok (.iload_n 3, 1) := by decide +kernel
theorem dL_law_1288 : decode cL_law 1288 = .ok (.iconst 1, 1) := by decide +kernel
theorem dL_law_1289 : decode cL_law 1289 = .ok (.iadd, 1) := by decide +kernel
theorem dL_law_1290 : decode cL_law 1290 = .ok (.iaload, 1) := by decide +kernel
theorem dL_law_1291 : decode cL_law 1291 = .ok (.invokevirtual 160, 3) := by decide +kernel
theorem dL_law_1294 : decode cL_law 1294 = .ok (.if_icmp .eq 19, 3) := by decide +kernel
theorem dL_law_1297 : decode cL_law 1297 = .ok (.iconst 0, 1) := by decide +kernel
theorem dL_law_1298 : decode cL_law 1298 = .ok (.ireturn, 1) := by decide +kernel
theorem dL_law_1299 : decode cL_law 1299 = .ok (.aload_n 1, 1) := by decide +kernel
theorem dL_law_1300 : decode cL_law 1300 = .ok (.invokevirtual 161, 3) := by decide +kernel
theorem dL_law_1303 : decode cL_law 1303 = .ok (.aload_n 2, 1) := by decide +kernel
theorem dL_law_1304 : decode cL_law 1304 = .ok (.invokevirtual 165, 3) := by decide +kernel
theorem dL_law_1307 : decode cL_law 1307 = .ok (.lcmp, 1) := by decide +kernel
theorem dL_law_1308 : decode cL_law 1308 = .ok (.ifCond .eq 5, 3) := by decide +kernel
theorem dL_law_1311 : decode cL_law 1311 = .ok (.iconst 0, 1) := by decide +kernel
theorem dL_law_1312 : decode cL_law 1312 = .ok (.ireturn, 1) := by decide +kernel
theorem dL_law_1313 : decode cL_law 1313 = .ok (.iinc 3 6, 3) := by decide +kernel
theorem dL_law_1316 : decode cL_law 1316 = .ok (.goto (-1298), 3) := by decide +kernel
theorem dL_law_1319 : decode cL_law 1319 = .ok (.iconst 1, 1) := by decide +kernel
theorem dL_law_1320 : decode cL_law 1320 = .ok (.ireturn, 1) := by decide +kernel
